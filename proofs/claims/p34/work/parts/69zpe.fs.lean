/-! ===== match: what happens from place to place ===== -/
def sg_mh_x0_Z : List sg_z := [(0, [], [.inl (false, (0, .ofNat 0, .negSucc 0))], [(2, 0, (0, .ofNat 0, .ofNat 0), (0, .ofNat 0, .ofNat 0), (0, .ofNat 0, .ofNat 0)), (2, 2, (1, .ofNat 1, .ofNat 0), (0, .ofNat 0, .ofNat 0), (0, .ofNat 0, .ofNat 0))], [(1, [(.negSucc 2147483647, .negSucc 0)])], [], []),
  (0, [], [.inl (false, (0, .ofNat 0, .negSucc 0))], [(2, 0, (0, .ofNat 0, .ofNat 0), (0, .ofNat 0, .ofNat 0), (0, .ofNat 0, .ofNat 0)), (2, 3, (1, .ofNat 1, .ofNat 0), (0, .ofNat 0, .ofNat 4), (0, .ofNat 0, .ofNat 0)), (2, 3, (1, .ofNat 1, .ofNat 0), (0, .ofNat 0, .ofNat 0), (0, .ofNat 0, .ofNat 0))], [(1, [(.ofNat 4, .ofNat 2147483647)])], [], []),
  (0, [], [.inl (false, (0, .ofNat 0, .negSucc 0))], [(2, 0, (0, .ofNat 0, .ofNat 0), (0, .ofNat 0, .ofNat 0), (0, .ofNat 0, .ofNat 0)), (2, 2, (2, .ofNat 1, .ofNat 0), (0, .ofNat 0, .ofNat 0), (0, .ofNat 0, .ofNat 0)), (2, 1, (0, .ofNat 0, .ofNat 1), (0, .ofNat 0, .ofNat 0), (0, .ofNat 0, .ofNat 0)), (2, 2, (1, .ofNat 1, .ofNat 0), (0, .ofNat 0, .ofNat 4), (0, .ofNat 0, .ofNat 0)), (2, 3, (1, .ofNat 1, .ofNat 0), (0, .ofNat 0, .ofNat 0), (0, .ofNat 0, .ofNat 0))], [(1, [(.ofNat 0, .ofNat 3)]), (2, [(.negSucc 2147483647, .negSucc 0)])], [], []),
  (0, [], [.inl (false, (0, .ofNat 0, .negSucc 0))], [(2, 0, (0, .ofNat 0, .ofNat 0), (0, .ofNat 0, .ofNat 0), (0, .ofNat 0, .ofNat 0)), (2, 3, (2, .ofNat 1, .ofNat 0), (0, .ofNat 0, .ofNat 3), (0, .ofNat 0, .ofNat 0)), (2, 3, (2, .ofNat 1, .ofNat 0), (0, .ofNat 0, .ofNat 0), (0, .ofNat 0, .ofNat 0)), (2, 1, (0, .ofNat 0, .ofNat 1), (0, .ofNat 0, .ofNat 0), (0, .ofNat 0, .ofNat 0)), (2, 2, (1, .ofNat 1, .ofNat 0), (0, .ofNat 0, .ofNat 4), (0, .ofNat 0, .ofNat 0)), (2, 3, (1, .ofNat 1, .ofNat 0), (0, .ofNat 0, .ofNat 0), (0, .ofNat 0, .ofNat 0))], [(1, [(.ofNat 0, .ofNat 3)]), (2, [(.ofNat 3, .ofNat 2147483647)])], [], []),
  (0, [], [.inl (false, (0, .ofNat 0, .negSucc 0))], [(2, 2, (4, .ofNat 1, .ofNat 0), (0, .ofNat 0, .ofNat 1), (0, .ofNat 0, .ofNat 0)), (2, 1, (0, .ofNat 0, .ofNat 1), (0, .ofNat 0, .ofNat 0), (0, .ofNat 0, .ofNat 0)), (2, 2, (2, .ofNat 1, .ofNat 0), (0, .ofNat 0, .ofNat 3), (0, .ofNat 0, .ofNat 0)), (2, 3, (2, .ofNat 1, .ofNat 0), (0, .ofNat 0, .ofNat 0), (0, .ofNat 0, .ofNat 0)), (2, 1, (0, .ofNat 0, .ofNat 1), (0, .ofNat 0, .ofNat 0), (0, .ofNat 0, .ofNat 0)), (2, 2, (1, .ofNat 1, .ofNat 0), (0, .ofNat 0, .ofNat 4), (0, .ofNat 0, .ofNat 0)), (2, 3, (1, .ofNat 1, .ofNat 0), (0, .ofNat 0, .ofNat 0), (0, .ofNat 0, .ofNat 0))], [(1, [(.ofNat 0, .ofNat 3)]), (2, [(.ofNat 0, .ofNat 2)]), (4, [(.negSucc 2147483647, .ofNat 0)])], [], []),
  (0, [], [.inl (false, (0, .ofNat 0, .negSucc 0))], [(2, 4, (4, .ofNat 1, .ofNat 0), (0, .ofNat 0, .ofNat 20), (0, .ofNat 0, .ofNat 0)), (2, 3, (4, .ofNat 1, .ofNat 0), (0, .ofNat 0, .ofNat 1), (0, .ofNat 0, .ofNat 0)), (2, 1, (0, .ofNat 0, .ofNat 1), (0, .ofNat 0, .ofNat 0), (0, .ofNat 0, .ofNat 0)), (2, 2, (2, .ofNat 1, .ofNat 0), (0, .ofNat 0, .ofNat 3), (0, .ofNat 0, .ofNat 0)), (2, 3, (2, .ofNat 1, .ofNat 0), (0, .ofNat 0, .ofNat 0), (0, .ofNat 0, .ofNat 0)), (2, 1, (0, .ofNat 0, .ofNat 1), (0, .ofNat 0, .ofNat 0), (0, .ofNat 0, .ofNat 0)), (2, 2, (1, .ofNat 1, .ofNat 0), (0, .ofNat 0, .ofNat 4), (0, .ofNat 0, .ofNat 0)), (2, 3, (1, .ofNat 1, .ofNat 0), (0, .ofNat 0, .ofNat 0), (0, .ofNat 0, .ofNat 0))], [(1, [(.ofNat 0, .ofNat 3)]), (2, [(.ofNat 0, .ofNat 2)]), (4, [(.ofNat 21, .ofNat 2147483647)])], [], []),
  (0, [], [.inl (false, (0, .ofNat 0, .negSucc 0))], [(2, 2, (5, .ofNat 1, .ofNat 0), (0, .ofNat 0, .ofNat 0), (0, .ofNat 0, .ofNat 0)), (2, 5, (4, .ofNat 1, .ofNat 0), (0, .ofNat 0, .ofNat 20), (0, .ofNat 0, .ofNat 0)), (2, 3, (4, .ofNat 1, .ofNat 0), (0, .ofNat 0, .ofNat 1), (0, .ofNat 0, .ofNat 0)), (2, 1, (0, .ofNat 0, .ofNat 1), (0, .ofNat 0, .ofNat 0), (0, .ofNat 0, .ofNat 0)), (2, 2, (2, .ofNat 1, .ofNat 0), (0, .ofNat 0, .ofNat 3), (0, .ofNat 0, .ofNat 0)), (2, 3, (2, .ofNat 1, .ofNat 0), (0, .ofNat 0, .ofNat 0), (0, .ofNat 0, .ofNat 0)), (2, 1, (0, .ofNat 0, .ofNat 1), (0, .ofNat 0, .ofNat 0), (0, .ofNat 0, .ofNat 0)), (2, 2, (1, .ofNat 1, .ofNat 0), (0, .ofNat 0, .ofNat 4), (0, .ofNat 0, .ofNat 0)), (2, 3, (1, .ofNat 1, .ofNat 0), (0, .ofNat 0, .ofNat 0), (0, .ofNat 0, .ofNat 0))], [(1, [(.ofNat 0, .ofNat 3)]), (2, [(.ofNat 0, .ofNat 2)]), (4, [(.ofNat 1, .ofNat 20)]), (5, [(.negSucc 2147483647, .negSucc 0)])], [], []),
  (0, [], [.inl (false, (0, .ofNat 0, .negSucc 12))], [(2, 1, (0, .ofNat 0, .ofNat 3), (0, .ofNat 0, .ofNat 0), (0, .ofNat 0, .ofNat 0)), (2, 1, (0, .ofNat 0, .ofNat 3), (0, .ofNat 0, .ofNat 0), (0, .ofNat 0, .ofNat 0)), (2, 1, (6, .ofNat 1, .ofNat 0), (2, .ofNat 1, .ofNat 0), (0, .ofNat 0, .ofNat 0)), (0, 120, (0, .ofNat 0, .ofNat 2), (6, .ofNat 1, .ofNat 0), (0, .ofNat 0, .ofNat 0)), (2, 0, (0, .ofNat 0, .ofNat 0), (0, .ofNat 0, .ofNat 0), (0, .ofNat 0, .ofNat 0)), (2, 1, (6, .ofNat 1, .ofNat 0), (0, .ofNat 0, .negSucc 0), (0, .ofNat 0, .ofNat 0)), (0, 120, (0, .ofNat 0, .ofNat 2), (6, .ofNat 1, .ofNat 0), (0, .ofNat 0, .ofNat 0)), (2, 5, (5, .ofNat 1, .ofNat 0), (0, .ofNat 0, .ofNat 1000), (0, .ofNat 0, .ofNat 0)), (2, 3, (5, .ofNat 1, .ofNat 0), (0, .ofNat 0, .ofNat 0), (0, .ofNat 0, .ofNat 0)), (2, 5, (4, .ofNat 1, .ofNat 0), (0, .ofNat 0, .ofNat 20), (0, .ofNat 0, .ofNat 0)), (2, 3, (4, .ofNat 1, .ofNat 0), (0, .ofNat 0, .ofNat 1), (0, .ofNat 0, .ofNat 0)), (2, 1, (0, .ofNat 0, .ofNat 1), (0, .ofNat 0, .ofNat 0), (0, .ofNat 0, .ofNat 0)), (2, 2, (2, .ofNat 1, .ofNat 0), (0, .ofNat 0, .ofNat 3), (0, .ofNat 0, .ofNat 0)), (2, 3, (2, .ofNat 1, .ofNat 0), (0, .ofNat 0, .ofNat 0), (0, .ofNat 0, .ofNat 0)), (2, 1, (0, .ofNat 0, .ofNat 1), (0, .ofNat 0, .ofNat 0), (0, .ofNat 0, .ofNat 0)), (2, 2, (1, .ofNat 1, .ofNat 0), (0, .ofNat 0, .ofNat 4), (0, .ofNat 0, .ofNat 0)), (2, 3, (1, .ofNat 1, .ofNat 0), (0, .ofNat 0, .ofNat 0), (0, .ofNat 0, .ofNat 0))], [(1, [(.ofNat 3, .ofNat 3)]), (2, [(.ofNat 0, .ofNat 2)]), (4, [(.ofNat 1, .ofNat 20)]), (5, [(.ofNat 0, .ofNat 1000)]), (6, [(.ofNat 0, .ofNat 2)])], [], []),
  (0, [], [.inl (false, (0, .ofNat 0, .negSucc 11))], [(2, 1, (0, .ofNat 0, .ofNat 2), (0, .ofNat 0, .ofNat 0), (0, .ofNat 0, .ofNat 0)), (2, 0, (0, .ofNat 0, .ofNat 0), (0, .ofNat 0, .ofNat 0), (0, .ofNat 0, .ofNat 0)), (2, 2, (3, .ofNat 1, .ofNat 0), (0, .ofNat 0, .ofNat 0), (0, .ofNat 0, .ofNat 0)), (2, 0, (0, .ofNat 0, .ofNat 0), (0, .ofNat 0, .ofNat 0), (0, .ofNat 0, .ofNat 0)), (2, 0, (6, .ofNat 1, .ofNat 0), (2, .ofNat 1, .ofNat 0), (0, .ofNat 0, .ofNat 0)), (0, 120, (0, .ofNat 0, .ofNat 2), (6, .ofNat 1, .ofNat 0), (0, .ofNat 0, .ofNat 0)), (2, 0, (0, .ofNat 0, .ofNat 0), (0, .ofNat 0, .ofNat 0), (0, .ofNat 0, .ofNat 0)), (2, 1, (6, .ofNat 1, .ofNat 0), (0, .ofNat 0, .negSucc 0), (0, .ofNat 0, .ofNat 0)), (0, 120, (0, .ofNat 0, .ofNat 2), (6, .ofNat 1, .ofNat 0), (0, .ofNat 0, .ofNat 0)), (2, 5, (5, .ofNat 1, .ofNat 0), (0, .ofNat 0, .ofNat 1000), (0, .ofNat 0, .ofNat 0)), (2, 3, (5, .ofNat 1, .ofNat 0), (0, .ofNat 0, .ofNat 0), (0, .ofNat 0, .ofNat 0)), (2, 5, (4, .ofNat 1, .ofNat 0), (0, .ofNat 0, .ofNat 20), (0, .ofNat 0, .ofNat 0)), (2, 3, (4, .ofNat 1, .ofNat 0), (0, .ofNat 0, .ofNat 1), (0, .ofNat 0, .ofNat 0)), (2, 1, (0, .ofNat 0, .ofNat 1), (0, .ofNat 0, .ofNat 0), (0, .ofNat 0, .ofNat 0)), (2, 2, (2, .ofNat 1, .ofNat 0), (0, .ofNat 0, .ofNat 3), (0, .ofNat 0, .ofNat 0)), (2, 3, (2, .ofNat 1, .ofNat 0), (0, .ofNat 0, .ofNat 0), (0, .ofNat 0, .ofNat 0)), (2, 1, (0, .ofNat 0, .ofNat 1), (0, .ofNat 0, .ofNat 0), (0, .ofNat 0, .ofNat 0)), (2, 2, (1, .ofNat 1, .ofNat 0), (0, .ofNat 0, .ofNat 4), (0, .ofNat 0, .ofNat 0)), (2, 3, (1, .ofNat 1, .ofNat 0), (0, .ofNat 0, .ofNat 0), (0, .ofNat 0, .ofNat 0))], [(1, [(.ofNat 3, .ofNat 3)]), (2, [(.ofNat 0, .ofNat 2)]), (3, [(.negSucc 2147483647, .negSucc 0)]), (4, [(.ofNat 1, .ofNat 20)]), (5, [(.ofNat 0, .ofNat 1000)]), (6, [(.ofNat 0, .ofNat 2)])], [], []),
  (0, [], [.inl (false, (0, .ofNat 0, .negSucc 11))], [(2, 1, (0, .ofNat 0, .ofNat 2), (0, .ofNat 0, .ofNat 0), (0, .ofNat 0, .ofNat 0)), (2, 0, (0, .ofNat 0, .ofNat 0), (0, .ofNat 0, .ofNat 0), (0, .ofNat 0, .ofNat 0)), (2, 4, (3, .ofNat 1, .ofNat 0), (8, .ofNat 1, .ofNat 0), (0, .ofNat 0, .ofNat 0)), (0, 120, (0, .ofNat 0, .ofNat 0), (7, .ofNat 1, .ofNat 0), (0, .ofNat 0, .ofNat 0)), (2, 3, (3, .ofNat 1, .ofNat 0), (0, .ofNat 0, .ofNat 0), (0, .ofNat 0, .ofNat 0)), (2, 0, (0, .ofNat 0, .ofNat 0), (0, .ofNat 0, .ofNat 0), (0, .ofNat 0, .ofNat 0)), (2, 0, (6, .ofNat 1, .ofNat 0), (2, .ofNat 1, .ofNat 0), (0, .ofNat 0, .ofNat 0)), (0, 120, (0, .ofNat 0, .ofNat 2), (6, .ofNat 1, .ofNat 0), (0, .ofNat 0, .ofNat 0)), (2, 0, (0, .ofNat 0, .ofNat 0), (0, .ofNat 0, .ofNat 0), (0, .ofNat 0, .ofNat 0)), (2, 1, (6, .ofNat 1, .ofNat 0), (0, .ofNat 0, .negSucc 0), (0, .ofNat 0, .ofNat 0)), (0, 120, (0, .ofNat 0, .ofNat 2), (6, .ofNat 1, .ofNat 0), (0, .ofNat 0, .ofNat 0)), (2, 5, (5, .ofNat 1, .ofNat 0), (0, .ofNat 0, .ofNat 1000), (0, .ofNat 0, .ofNat 0)), (2, 3, (5, .ofNat 1, .ofNat 0), (0, .ofNat 0, .ofNat 0), (0, .ofNat 0, .ofNat 0)), (2, 5, (4, .ofNat 1, .ofNat 0), (0, .ofNat 0, .ofNat 20), (0, .ofNat 0, .ofNat 0)), (2, 3, (4, .ofNat 1, .ofNat 0), (0, .ofNat 0, .ofNat 1), (0, .ofNat 0, .ofNat 0)), (2, 1, (0, .ofNat 0, .ofNat 1), (0, .ofNat 0, .ofNat 0), (0, .ofNat 0, .ofNat 0)), (2, 2, (2, .ofNat 1, .ofNat 0), (0, .ofNat 0, .ofNat 3), (0, .ofNat 0, .ofNat 0)), (2, 3, (2, .ofNat 1, .ofNat 0), (0, .ofNat 0, .ofNat 0), (0, .ofNat 0, .ofNat 0)), (2, 1, (0, .ofNat 0, .ofNat 1), (0, .ofNat 0, .ofNat 0), (0, .ofNat 0, .ofNat 0)), (2, 2, (1, .ofNat 1, .ofNat 0), (0, .ofNat 0, .ofNat 4), (0, .ofNat 0, .ofNat 0)), (2, 3, (1, .ofNat 1, .ofNat 0), (0, .ofNat 0, .ofNat 0), (0, .ofNat 0, .ofNat 0))], [(1, [(.ofNat 3, .ofNat 3)]), (2, [(.ofNat 0, .ofNat 2)]), (3, [(.ofNat 0, .ofNat 2147483647)]), (4, [(.ofNat 1, .ofNat 20)]), (5, [(.ofNat 0, .ofNat 1000)]), (6, [(.ofNat 0, .ofNat 2)]), (7, [(.ofNat 0, .ofNat 60)]), (8, [(.negSucc 19, .ofNat 59)])], [((7, .ofNat 1, .ofNat 0), (4, .negSucc 0, .ofNat 0), (8, .ofNat 1, .ofNat 0))], []),
  (89, [(0, .inr (.inl [0])), (1, .inl (false, (0, .ofNat 0, .ofNat 3))), (2, .inl (false, (2, .ofNat 1, .ofNat 0))), (3, .inl (false, (3, .ofNat 1, .ofNat 0))), (4, .inl (false, (4, .ofNat 1, .ofNat 0))), (5, .inl (false, (5, .ofNat 1, .ofNat 0))), (6, .inl (false, (0, .ofNat 0, .ofNat 0)))], [], [(2, 0, (0, .ofNat 0, .ofNat 0), (0, .ofNat 0, .ofNat 0), (0, .ofNat 0, .ofNat 0)), (2, 1, (0, .ofNat 0, .ofNat 1), (0, .ofNat 0, .ofNat 0), (0, .ofNat 0, .ofNat 0)), (2, 5, (3, .ofNat 1, .ofNat 0), (8, .ofNat 1, .ofNat 0), (0, .ofNat 0, .ofNat 0)), (0, 120, (0, .ofNat 0, .ofNat 0), (7, .ofNat 1, .ofNat 0), (0, .ofNat 0, .ofNat 0)), (2, 3, (3, .ofNat 1, .ofNat 0), (0, .ofNat 0, .ofNat 0), (0, .ofNat 0, .ofNat 0)), (2, 0, (0, .ofNat 0, .ofNat 0), (0, .ofNat 0, .ofNat 0), (0, .ofNat 0, .ofNat 0)), (2, 0, (6, .ofNat 1, .ofNat 0), (2, .ofNat 1, .ofNat 0), (0, .ofNat 0, .ofNat 0)), (0, 120, (0, .ofNat 0, .ofNat 2), (6, .ofNat 1, .ofNat 0), (0, .ofNat 0, .ofNat 0)), (2, 0, (0, .ofNat 0, .ofNat 0), (0, .ofNat 0, .ofNat 0), (0, .ofNat 0, .ofNat 0)), (2, 1, (6, .ofNat 1, .ofNat 0), (0, .ofNat 0, .negSucc 0), (0, .ofNat 0, .ofNat 0)), (0, 120, (0, .ofNat 0, .ofNat 2), (6, .ofNat 1, .ofNat 0), (0, .ofNat 0, .ofNat 0)), (2, 5, (5, .ofNat 1, .ofNat 0), (0, .ofNat 0, .ofNat 1000), (0, .ofNat 0, .ofNat 0)), (2, 3, (5, .ofNat 1, .ofNat 0), (0, .ofNat 0, .ofNat 0), (0, .ofNat 0, .ofNat 0)), (2, 5, (4, .ofNat 1, .ofNat 0), (0, .ofNat 0, .ofNat 20), (0, .ofNat 0, .ofNat 0)), (2, 3, (4, .ofNat 1, .ofNat 0), (0, .ofNat 0, .ofNat 1), (0, .ofNat 0, .ofNat 0)), (2, 1, (0, .ofNat 0, .ofNat 1), (0, .ofNat 0, .ofNat 0), (0, .ofNat 0, .ofNat 0)), (2, 2, (2, .ofNat 1, .ofNat 0), (0, .ofNat 0, .ofNat 3), (0, .ofNat 0, .ofNat 0)), (2, 3, (2, .ofNat 1, .ofNat 0), (0, .ofNat 0, .ofNat 0), (0, .ofNat 0, .ofNat 0)), (2, 1, (0, .ofNat 0, .ofNat 1), (0, .ofNat 0, .ofNat 0), (0, .ofNat 0, .ofNat 0)), (2, 2, (1, .ofNat 1, .ofNat 0), (0, .ofNat 0, .ofNat 4), (0, .ofNat 0, .ofNat 0)), (2, 3, (1, .ofNat 1, .ofNat 0), (0, .ofNat 0, .ofNat 0), (0, .ofNat 0, .ofNat 0))], [(1, [(.ofNat 3, .ofNat 3)]), (2, [(.ofNat 0, .ofNat 2)]), (3, [(.ofNat 0, .ofNat 59)]), (4, [(.ofNat 1, .ofNat 20)]), (5, [(.ofNat 0, .ofNat 1000)]), (6, [(.ofNat 0, .ofNat 2)]), (7, [(.ofNat 0, .ofNat 60)]), (8, [(.ofNat 0, .ofNat 59)])], [((7, .ofNat 1, .ofNat 0), (4, .negSucc 0, .ofNat 0), (8, .ofNat 1, .ofNat 0))], []),
  (0, [], [.inl (false, (0, .ofNat 0, .negSucc 10))], [(2, 1, (0, .ofNat 0, .ofNat 1), (0, .ofNat 0, .ofNat 0), (0, .ofNat 0, .ofNat 0)), (2, 1, (0, .ofNat 0, .ofNat 1), (0, .ofNat 0, .ofNat 0), (0, .ofNat 0, .ofNat 0)), (2, 1, (0, .ofNat 0, .ofNat 1), (0, .ofNat 0, .ofNat 0), (0, .ofNat 0, .ofNat 0)), (2, 0, (6, .ofNat 1, .ofNat 0), (0, .ofNat 0, .negSucc 0), (0, .ofNat 0, .ofNat 0)), (0, 120, (0, .ofNat 0, .ofNat 2), (6, .ofNat 1, .ofNat 0), (0, .ofNat 0, .ofNat 0)), (2, 5, (5, .ofNat 1, .ofNat 0), (0, .ofNat 0, .ofNat 1000), (0, .ofNat 0, .ofNat 0)), (2, 3, (5, .ofNat 1, .ofNat 0), (0, .ofNat 0, .ofNat 0), (0, .ofNat 0, .ofNat 0)), (2, 5, (4, .ofNat 1, .ofNat 0), (0, .ofNat 0, .ofNat 20), (0, .ofNat 0, .ofNat 0)), (2, 3, (4, .ofNat 1, .ofNat 0), (0, .ofNat 0, .ofNat 1), (0, .ofNat 0, .ofNat 0)), (2, 1, (0, .ofNat 0, .ofNat 1), (0, .ofNat 0, .ofNat 0), (0, .ofNat 0, .ofNat 0)), (2, 2, (2, .ofNat 1, .ofNat 0), (0, .ofNat 0, .ofNat 3), (0, .ofNat 0, .ofNat 0)), (2, 3, (2, .ofNat 1, .ofNat 0), (0, .ofNat 0, .ofNat 0), (0, .ofNat 0, .ofNat 0)), (2, 1, (0, .ofNat 0, .ofNat 1), (0, .ofNat 0, .ofNat 0), (0, .ofNat 0, .ofNat 0)), (2, 2, (1, .ofNat 1, .ofNat 0), (0, .ofNat 0, .ofNat 4), (0, .ofNat 0, .ofNat 0)), (2, 3, (1, .ofNat 1, .ofNat 0), (0, .ofNat 0, .ofNat 0), (0, .ofNat 0, .ofNat 0))], [(1, [(.ofNat 3, .ofNat 3)]), (2, [(.ofNat 0, .ofNat 2)]), (4, [(.ofNat 1, .ofNat 20)]), (5, [(.ofNat 0, .ofNat 1000)]), (6, [(.negSucc 0, .negSucc 0)])], [], []),
  (0, [], [.inl (false, (0, .ofNat 0, .negSucc 12))], [(2, 1, (0, .ofNat 0, .ofNat 3), (0, .ofNat 0, .ofNat 0), (0, .ofNat 0, .ofNat 0)), (2, 1, (0, .ofNat 0, .ofNat 3), (0, .ofNat 0, .ofNat 0), (0, .ofNat 0, .ofNat 0)), (2, 1, (6, .ofNat 1, .ofNat 0), (2, .ofNat 1, .ofNat 0), (0, .ofNat 0, .ofNat 0)), (0, 118, (0, .ofNat 0, .ofNat 2), (6, .ofNat 1, .ofNat 0), (0, .ofNat 0, .ofNat 0)), (2, 0, (0, .ofNat 0, .ofNat 0), (0, .ofNat 0, .ofNat 0), (0, .ofNat 0, .ofNat 0)), (2, 1, (6, .ofNat 1, .ofNat 0), (0, .ofNat 0, .negSucc 0), (0, .ofNat 0, .ofNat 0)), (0, 118, (0, .ofNat 0, .ofNat 2), (6, .ofNat 1, .ofNat 0), (0, .ofNat 0, .ofNat 0)), (2, 5, (5, .ofNat 1, .ofNat 0), (0, .ofNat 0, .ofNat 1000), (0, .ofNat 0, .ofNat 0)), (2, 3, (5, .ofNat 1, .ofNat 0), (0, .ofNat 0, .ofNat 0), (0, .ofNat 0, .ofNat 0)), (2, 5, (4, .ofNat 1, .ofNat 0), (0, .ofNat 0, .ofNat 20), (0, .ofNat 0, .ofNat 0)), (2, 3, (4, .ofNat 1, .ofNat 0), (0, .ofNat 0, .ofNat 1), (0, .ofNat 0, .ofNat 0)), (2, 1, (0, .ofNat 0, .ofNat 1), (0, .ofNat 0, .ofNat 0), (0, .ofNat 0, .ofNat 0)), (2, 2, (2, .ofNat 1, .ofNat 0), (0, .ofNat 0, .ofNat 3), (0, .ofNat 0, .ofNat 0)), (2, 3, (2, .ofNat 1, .ofNat 0), (0, .ofNat 0, .ofNat 0), (0, .ofNat 0, .ofNat 0)), (2, 1, (0, .ofNat 0, .ofNat 1), (0, .ofNat 0, .ofNat 0), (0, .ofNat 0, .ofNat 0)), (2, 2, (1, .ofNat 1, .ofNat 0), (0, .ofNat 0, .ofNat 4), (0, .ofNat 0, .ofNat 0)), (2, 3, (1, .ofNat 1, .ofNat 0), (0, .ofNat 0, .ofNat 0), (0, .ofNat 0, .ofNat 0))], [(1, [(.ofNat 2, .ofNat 2)]), (2, [(.ofNat 0, .ofNat 2)]), (4, [(.ofNat 1, .ofNat 20)]), (5, [(.ofNat 0, .ofNat 1000)]), (6, [(.ofNat 0, .ofNat 2)])], [], []),
  (0, [], [.inl (false, (0, .ofNat 0, .negSucc 11))], [(2, 1, (0, .ofNat 0, .ofNat 2), (0, .ofNat 0, .ofNat 0), (0, .ofNat 0, .ofNat 0)), (2, 0, (0, .ofNat 0, .ofNat 0), (0, .ofNat 0, .ofNat 0), (0, .ofNat 0, .ofNat 0)), (2, 2, (3, .ofNat 1, .ofNat 0), (0, .ofNat 0, .ofNat 0), (0, .ofNat 0, .ofNat 0)), (2, 0, (0, .ofNat 0, .ofNat 0), (0, .ofNat 0, .ofNat 0), (0, .ofNat 0, .ofNat 0)), (2, 0, (6, .ofNat 1, .ofNat 0), (2, .ofNat 1, .ofNat 0), (0, .ofNat 0, .ofNat 0)), (0, 118, (0, .ofNat 0, .ofNat 2), (6, .ofNat 1, .ofNat 0), (0, .ofNat 0, .ofNat 0)), (2, 0, (0, .ofNat 0, .ofNat 0), (0, .ofNat 0, .ofNat 0), (0, .ofNat 0, .ofNat 0)), (2, 1, (6, .ofNat 1, .ofNat 0), (0, .ofNat 0, .negSucc 0), (0, .ofNat 0, .ofNat 0)), (0, 118, (0, .ofNat 0, .ofNat 2), (6, .ofNat 1, .ofNat 0), (0, .ofNat 0, .ofNat 0)), (2, 5, (5, .ofNat 1, .ofNat 0), (0, .ofNat 0, .ofNat 1000), (0, .ofNat 0, .ofNat 0)), (2, 3, (5, .ofNat 1, .ofNat 0), (0, .ofNat 0, .ofNat 0), (0, .ofNat 0, .ofNat 0)), (2, 5, (4, .ofNat 1, .ofNat 0), (0, .ofNat 0, .ofNat 20), (0, .ofNat 0, .ofNat 0)), (2, 3, (4, .ofNat 1, .ofNat 0), (0, .ofNat 0, .ofNat 1), (0, .ofNat 0, .ofNat 0)), (2, 1, (0, .ofNat 0, .ofNat 1), (0, .ofNat 0, .ofNat 0), (0, .ofNat 0, .ofNat 0)), (2, 2, (2, .ofNat 1, .ofNat 0), (0, .ofNat 0, .ofNat 3), (0, .ofNat 0, .ofNat 0)), (2, 3, (2, .ofNat 1, .ofNat 0), (0, .ofNat 0, .ofNat 0), (0, .ofNat 0, .ofNat 0)), (2, 1, (0, .ofNat 0, .ofNat 1), (0, .ofNat 0, .ofNat 0), (0, .ofNat 0, .ofNat 0)), (2, 2, (1, .ofNat 1, .ofNat 0), (0, .ofNat 0, .ofNat 4), (0, .ofNat 0, .ofNat 0)), (2, 3, (1, .ofNat 1, .ofNat 0), (0, .ofNat 0, .ofNat 0), (0, .ofNat 0, .ofNat 0))], [(1, [(.ofNat 2, .ofNat 2)]), (2, [(.ofNat 0, .ofNat 2)]), (3, [(.negSucc 2147483647, .negSucc 0)]), (4, [(.ofNat 1, .ofNat 20)]), (5, [(.ofNat 0, .ofNat 1000)]), (6, [(.ofNat 0, .ofNat 2)])], [], []),
  (0, [], [.inl (false, (0, .ofNat 0, .negSucc 11))], [(2, 1, (0, .ofNat 0, .ofNat 2), (0, .ofNat 0, .ofNat 0), (0, .ofNat 0, .ofNat 0)), (2, 0, (0, .ofNat 0, .ofNat 0), (0, .ofNat 0, .ofNat 0), (0, .ofNat 0, .ofNat 0)), (2, 4, (3, .ofNat 1, .ofNat 0), (8, .ofNat 1, .ofNat 0), (0, .ofNat 0, .ofNat 0)), (0, 118, (0, .ofNat 0, .ofNat 0), (7, .ofNat 1, .ofNat 0), (0, .ofNat 0, .ofNat 0)), (2, 3, (3, .ofNat 1, .ofNat 0), (0, .ofNat 0, .ofNat 0), (0, .ofNat 0, .ofNat 0)), (2, 0, (0, .ofNat 0, .ofNat 0), (0, .ofNat 0, .ofNat 0), (0, .ofNat 0, .ofNat 0)), (2, 0, (6, .ofNat 1, .ofNat 0), (2, .ofNat 1, .ofNat 0), (0, .ofNat 0, .ofNat 0)), (0, 118, (0, .ofNat 0, .ofNat 2), (6, .ofNat 1, .ofNat 0), (0, .ofNat 0, .ofNat 0)), (2, 0, (0, .ofNat 0, .ofNat 0), (0, .ofNat 0, .ofNat 0), (0, .ofNat 0, .ofNat 0)), (2, 1, (6, .ofNat 1, .ofNat 0), (0, .ofNat 0, .negSucc 0), (0, .ofNat 0, .ofNat 0)), (0, 118, (0, .ofNat 0, .ofNat 2), (6, .ofNat 1, .ofNat 0), (0, .ofNat 0, .ofNat 0)), (2, 5, (5, .ofNat 1, .ofNat 0), (0, .ofNat 0, .ofNat 1000), (0, .ofNat 0, .ofNat 0)), (2, 3, (5, .ofNat 1, .ofNat 0), (0, .ofNat 0, .ofNat 0), (0, .ofNat 0, .ofNat 0)), (2, 5, (4, .ofNat 1, .ofNat 0), (0, .ofNat 0, .ofNat 20), (0, .ofNat 0, .ofNat 0)), (2, 3, (4, .ofNat 1, .ofNat 0), (0, .ofNat 0, .ofNat 1), (0, .ofNat 0, .ofNat 0)), (2, 1, (0, .ofNat 0, .ofNat 1), (0, .ofNat 0, .ofNat 0), (0, .ofNat 0, .ofNat 0)), (2, 2, (2, .ofNat 1, .ofNat 0), (0, .ofNat 0, .ofNat 3), (0, .ofNat 0, .ofNat 0)), (2, 3, (2, .ofNat 1, .ofNat 0), (0, .ofNat 0, .ofNat 0), (0, .ofNat 0, .ofNat 0)), (2, 1, (0, .ofNat 0, .ofNat 1), (0, .ofNat 0, .ofNat 0), (0, .ofNat 0, .ofNat 0)), (2, 2, (1, .ofNat 1, .ofNat 0), (0, .ofNat 0, .ofNat 4), (0, .ofNat 0, .ofNat 0)), (2, 3, (1, .ofNat 1, .ofNat 0), (0, .ofNat 0, .ofNat 0), (0, .ofNat 0, .ofNat 0))], [(1, [(.ofNat 2, .ofNat 2)]), (2, [(.ofNat 0, .ofNat 2)]), (3, [(.ofNat 0, .ofNat 2147483647)]), (4, [(.ofNat 1, .ofNat 20)]), (5, [(.ofNat 0, .ofNat 1000)]), (6, [(.ofNat 0, .ofNat 2)]), (7, [(.ofNat 0, .ofNat 60)]), (8, [(.negSucc 19, .ofNat 59)])], [((7, .ofNat 1, .ofNat 0), (4, .negSucc 0, .ofNat 0), (8, .ofNat 1, .ofNat 0))], []),
  (89, [(0, .inr (.inl [0])), (1, .inl (false, (0, .ofNat 0, .ofNat 2))), (2, .inl (false, (2, .ofNat 1, .ofNat 0))), (3, .inl (false, (3, .ofNat 1, .ofNat 0))), (4, .inl (false, (4, .ofNat 1, .ofNat 0))), (5, .inl (false, (5, .ofNat 1, .ofNat 0))), (6, .inl (false, (0, .ofNat 0, .ofNat 0)))], [], [(2, 0, (0, .ofNat 0, .ofNat 0), (0, .ofNat 0, .ofNat 0), (0, .ofNat 0, .ofNat 0)), (2, 1, (0, .ofNat 0, .ofNat 1), (0, .ofNat 0, .ofNat 0), (0, .ofNat 0, .ofNat 0)), (2, 5, (3, .ofNat 1, .ofNat 0), (8, .ofNat 1, .ofNat 0), (0, .ofNat 0, .ofNat 0)), (0, 118, (0, .ofNat 0, .ofNat 0), (7, .ofNat 1, .ofNat 0), (0, .ofNat 0, .ofNat 0)), (2, 3, (3, .ofNat 1, .ofNat 0), (0, .ofNat 0, .ofNat 0), (0, .ofNat 0, .ofNat 0)), (2, 0, (0, .ofNat 0, .ofNat 0), (0, .ofNat 0, .ofNat 0), (0, .ofNat 0, .ofNat 0)), (2, 0, (6, .ofNat 1, .ofNat 0), (2, .ofNat 1, .ofNat 0), (0, .ofNat 0, .ofNat 0)), (0, 118, (0, .ofNat 0, .ofNat 2), (6, .ofNat 1, .ofNat 0), (0, .ofNat 0, .ofNat 0)), (2, 0, (0, .ofNat 0, .ofNat 0), (0, .ofNat 0, .ofNat 0), (0, .ofNat 0, .ofNat 0)), (2, 1, (6, .ofNat 1, .ofNat 0), (0, .ofNat 0, .negSucc 0), (0, .ofNat 0, .ofNat 0)), (0, 118, (0, .ofNat 0, .ofNat 2), (6, .ofNat 1, .ofNat 0), (0, .ofNat 0, .ofNat 0)), (2, 5, (5, .ofNat 1, .ofNat 0), (0, .ofNat 0, .ofNat 1000), (0, .ofNat 0, .ofNat 0)), (2, 3, (5, .ofNat 1, .ofNat 0), (0, .ofNat 0, .ofNat 0), (0, .ofNat 0, .ofNat 0)), (2, 5, (4, .ofNat 1, .ofNat 0), (0, .ofNat 0, .ofNat 20), (0, .ofNat 0, .ofNat 0)), (2, 3, (4, .ofNat 1, .ofNat 0), (0, .ofNat 0, .ofNat 1), (0, .ofNat 0, .ofNat 0)), (2, 1, (0, .ofNat 0, .ofNat 1), (0, .ofNat 0, .ofNat 0), (0, .ofNat 0, .ofNat 0)), (2, 2, (2, .ofNat 1, .ofNat 0), (0, .ofNat 0, .ofNat 3), (0, .ofNat 0, .ofNat 0)), (2, 3, (2, .ofNat 1, .ofNat 0), (0, .ofNat 0, .ofNat 0), (0, .ofNat 0, .ofNat 0)), (2, 1, (0, .ofNat 0, .ofNat 1), (0, .ofNat 0, .ofNat 0), (0, .ofNat 0, .ofNat 0)), (2, 2, (1, .ofNat 1, .ofNat 0), (0, .ofNat 0, .ofNat 4), (0, .ofNat 0, .ofNat 0)), (2, 3, (1, .ofNat 1, .ofNat 0), (0, .ofNat 0, .ofNat 0), (0, .ofNat 0, .ofNat 0))], [(1, [(.ofNat 2, .ofNat 2)]), (2, [(.ofNat 0, .ofNat 2)]), (3, [(.ofNat 0, .ofNat 59)]), (4, [(.ofNat 1, .ofNat 20)]), (5, [(.ofNat 0, .ofNat 1000)]), (6, [(.ofNat 0, .ofNat 2)]), (7, [(.ofNat 0, .ofNat 60)]), (8, [(.ofNat 0, .ofNat 59)])], [((7, .ofNat 1, .ofNat 0), (4, .negSucc 0, .ofNat 0), (8, .ofNat 1, .ofNat 0))], []),
  (0, [], [.inl (false, (0, .ofNat 0, .negSucc 10))], [(2, 1, (0, .ofNat 0, .ofNat 1), (0, .ofNat 0, .ofNat 0), (0, .ofNat 0, .ofNat 0)), (2, 1, (0, .ofNat 0, .ofNat 1), (0, .ofNat 0, .ofNat 0), (0, .ofNat 0, .ofNat 0)), (2, 1, (0, .ofNat 0, .ofNat 1), (0, .ofNat 0, .ofNat 0), (0, .ofNat 0, .ofNat 0)), (2, 0, (6, .ofNat 1, .ofNat 0), (0, .ofNat 0, .negSucc 0), (0, .ofNat 0, .ofNat 0)), (0, 118, (0, .ofNat 0, .ofNat 2), (6, .ofNat 1, .ofNat 0), (0, .ofNat 0, .ofNat 0)), (2, 5, (5, .ofNat 1, .ofNat 0), (0, .ofNat 0, .ofNat 1000), (0, .ofNat 0, .ofNat 0)), (2, 3, (5, .ofNat 1, .ofNat 0), (0, .ofNat 0, .ofNat 0), (0, .ofNat 0, .ofNat 0)), (2, 5, (4, .ofNat 1, .ofNat 0), (0, .ofNat 0, .ofNat 20), (0, .ofNat 0, .ofNat 0)), (2, 3, (4, .ofNat 1, .ofNat 0), (0, .ofNat 0, .ofNat 1), (0, .ofNat 0, .ofNat 0)), (2, 1, (0, .ofNat 0, .ofNat 1), (0, .ofNat 0, .ofNat 0), (0, .ofNat 0, .ofNat 0)), (2, 2, (2, .ofNat 1, .ofNat 0), (0, .ofNat 0, .ofNat 3), (0, .ofNat 0, .ofNat 0)), (2, 3, (2, .ofNat 1, .ofNat 0), (0, .ofNat 0, .ofNat 0), (0, .ofNat 0, .ofNat 0)), (2, 1, (0, .ofNat 0, .ofNat 1), (0, .ofNat 0, .ofNat 0), (0, .ofNat 0, .ofNat 0)), (2, 2, (1, .ofNat 1, .ofNat 0), (0, .ofNat 0, .ofNat 4), (0, .ofNat 0, .ofNat 0)), (2, 3, (1, .ofNat 1, .ofNat 0), (0, .ofNat 0, .ofNat 0), (0, .ofNat 0, .ofNat 0))], [(1, [(.ofNat 2, .ofNat 2)]), (2, [(.ofNat 0, .ofNat 2)]), (4, [(.ofNat 1, .ofNat 20)]), (5, [(.ofNat 0, .ofNat 1000)]), (6, [(.negSucc 0, .negSucc 0)])], [], []),
  (0, [], [.inl (false, (0, .ofNat 0, .negSucc 12))], [(2, 1, (0, .ofNat 0, .ofNat 3), (0, .ofNat 0, .ofNat 0), (0, .ofNat 0, .ofNat 0)), (2, 1, (0, .ofNat 0, .ofNat 3), (0, .ofNat 0, .ofNat 0), (0, .ofNat 0, .ofNat 0)), (2, 1, (6, .ofNat 1, .ofNat 0), (2, .ofNat 1, .ofNat 0), (0, .ofNat 0, .ofNat 0)), (0, 116, (0, .ofNat 0, .ofNat 2), (6, .ofNat 1, .ofNat 0), (0, .ofNat 0, .ofNat 0)), (2, 0, (0, .ofNat 0, .ofNat 0), (0, .ofNat 0, .ofNat 0), (0, .ofNat 0, .ofNat 0)), (2, 1, (6, .ofNat 1, .ofNat 0), (0, .ofNat 0, .negSucc 0), (0, .ofNat 0, .ofNat 0)), (0, 116, (0, .ofNat 0, .ofNat 2), (6, .ofNat 1, .ofNat 0), (0, .ofNat 0, .ofNat 0)), (2, 5, (5, .ofNat 1, .ofNat 0), (0, .ofNat 0, .ofNat 1000), (0, .ofNat 0, .ofNat 0)), (2, 3, (5, .ofNat 1, .ofNat 0), (0, .ofNat 0, .ofNat 0), (0, .ofNat 0, .ofNat 0)), (2, 5, (4, .ofNat 1, .ofNat 0), (0, .ofNat 0, .ofNat 20), (0, .ofNat 0, .ofNat 0)), (2, 3, (4, .ofNat 1, .ofNat 0), (0, .ofNat 0, .ofNat 1), (0, .ofNat 0, .ofNat 0)), (2, 1, (0, .ofNat 0, .ofNat 1), (0, .ofNat 0, .ofNat 0), (0, .ofNat 0, .ofNat 0)), (2, 2, (2, .ofNat 1, .ofNat 0), (0, .ofNat 0, .ofNat 3), (0, .ofNat 0, .ofNat 0)), (2, 3, (2, .ofNat 1, .ofNat 0), (0, .ofNat 0, .ofNat 0), (0, .ofNat 0, .ofNat 0)), (2, 1, (0, .ofNat 0, .ofNat 1), (0, .ofNat 0, .ofNat 0), (0, .ofNat 0, .ofNat 0)), (2, 2, (1, .ofNat 1, .ofNat 0), (0, .ofNat 0, .ofNat 4), (0, .ofNat 0, .ofNat 0)), (2, 3, (1, .ofNat 1, .ofNat 0), (0, .ofNat 0, .ofNat 0), (0, .ofNat 0, .ofNat 0))], [(1, [(.ofNat 1, .ofNat 1)]), (2, [(.ofNat 0, .ofNat 2)]), (4, [(.ofNat 1, .ofNat 20)]), (5, [(.ofNat 0, .ofNat 1000)]), (6, [(.ofNat 0, .ofNat 2)])], [], []),
  (0, [], [.inl (false, (0, .ofNat 0, .negSucc 11))], [(2, 1, (0, .ofNat 0, .ofNat 2), (0, .ofNat 0, .ofNat 0), (0, .ofNat 0, .ofNat 0)), (2, 0, (0, .ofNat 0, .ofNat 0), (0, .ofNat 0, .ofNat 0), (0, .ofNat 0, .ofNat 0)), (2, 2, (3, .ofNat 1, .ofNat 0), (0, .ofNat 0, .ofNat 0), (0, .ofNat 0, .ofNat 0)), (2, 0, (0, .ofNat 0, .ofNat 0), (0, .ofNat 0, .ofNat 0), (0, .ofNat 0, .ofNat 0)), (2, 0, (6, .ofNat 1, .ofNat 0), (2, .ofNat 1, .ofNat 0), (0, .ofNat 0, .ofNat 0)), (0, 116, (0, .ofNat 0, .ofNat 2), (6, .ofNat 1, .ofNat 0), (0, .ofNat 0, .ofNat 0)), (2, 0, (0, .ofNat 0, .ofNat 0), (0, .ofNat 0, .ofNat 0), (0, .ofNat 0, .ofNat 0)), (2, 1, (6, .ofNat 1, .ofNat 0), (0, .ofNat 0, .negSucc 0), (0, .ofNat 0, .ofNat 0)), (0, 116, (0, .ofNat 0, .ofNat 2), (6, .ofNat 1, .ofNat 0), (0, .ofNat 0, .ofNat 0)), (2, 5, (5, .ofNat 1, .ofNat 0), (0, .ofNat 0, .ofNat 1000), (0, .ofNat 0, .ofNat 0)), (2, 3, (5, .ofNat 1, .ofNat 0), (0, .ofNat 0, .ofNat 0), (0, .ofNat 0, .ofNat 0)), (2, 5, (4, .ofNat 1, .ofNat 0), (0, .ofNat 0, .ofNat 20), (0, .ofNat 0, .ofNat 0)), (2, 3, (4, .ofNat 1, .ofNat 0), (0, .ofNat 0, .ofNat 1), (0, .ofNat 0, .ofNat 0)), (2, 1, (0, .ofNat 0, .ofNat 1), (0, .ofNat 0, .ofNat 0), (0, .ofNat 0, .ofNat 0)), (2, 2, (2, .ofNat 1, .ofNat 0), (0, .ofNat 0, .ofNat 3), (0, .ofNat 0, .ofNat 0)), (2, 3, (2, .ofNat 1, .ofNat 0), (0, .ofNat 0, .ofNat 0), (0, .ofNat 0, .ofNat 0)), (2, 1, (0, .ofNat 0, .ofNat 1), (0, .ofNat 0, .ofNat 0), (0, .ofNat 0, .ofNat 0)), (2, 2, (1, .ofNat 1, .ofNat 0), (0, .ofNat 0, .ofNat 4), (0, .ofNat 0, .ofNat 0)), (2, 3, (1, .ofNat 1, .ofNat 0), (0, .ofNat 0, .ofNat 0), (0, .ofNat 0, .ofNat 0))], [(1, [(.ofNat 1, .ofNat 1)]), (2, [(.ofNat 0, .ofNat 2)]), (3, [(.negSucc 2147483647, .negSucc 0)]), (4, [(.ofNat 1, .ofNat 20)]), (5, [(.ofNat 0, .ofNat 1000)]), (6, [(.ofNat 0, .ofNat 2)])], [], []),
  (0, [], [.inl (false, (0, .ofNat 0, .negSucc 11))], [(2, 1, (0, .ofNat 0, .ofNat 2), (0, .ofNat 0, .ofNat 0), (0, .ofNat 0, .ofNat 0)), (2, 0, (0, .ofNat 0, .ofNat 0), (0, .ofNat 0, .ofNat 0), (0, .ofNat 0, .ofNat 0)), (2, 4, (3, .ofNat 1, .ofNat 0), (8, .ofNat 1, .ofNat 0), (0, .ofNat 0, .ofNat 0)), (0, 116, (0, .ofNat 0, .ofNat 0), (7, .ofNat 1, .ofNat 0), (0, .ofNat 0, .ofNat 0)), (2, 3, (3, .ofNat 1, .ofNat 0), (0, .ofNat 0, .ofNat 0), (0, .ofNat 0, .ofNat 0)), (2, 0, (0, .ofNat 0, .ofNat 0), (0, .ofNat 0, .ofNat 0), (0, .ofNat 0, .ofNat 0)), (2, 0, (6, .ofNat 1, .ofNat 0), (2, .ofNat 1, .ofNat 0), (0, .ofNat 0, .ofNat 0)), (0, 116, (0, .ofNat 0, .ofNat 2), (6, .ofNat 1, .ofNat 0), (0, .ofNat 0, .ofNat 0)), (2, 0, (0, .ofNat 0, .ofNat 0), (0, .ofNat 0, .ofNat 0), (0, .ofNat 0, .ofNat 0)), (2, 1, (6, .ofNat 1, .ofNat 0), (0, .ofNat 0, .negSucc 0), (0, .ofNat 0, .ofNat 0)), (0, 116, (0, .ofNat 0, .ofNat 2), (6, .ofNat 1, .ofNat 0), (0, .ofNat 0, .ofNat 0)), (2, 5, (5, .ofNat 1, .ofNat 0), (0, .ofNat 0, .ofNat 1000), (0, .ofNat 0, .ofNat 0)), (2, 3, (5, .ofNat 1, .ofNat 0), (0, .ofNat 0, .ofNat 0), (0, .ofNat 0, .ofNat 0)), (2, 5, (4, .ofNat 1, .ofNat 0), (0, .ofNat 0, .ofNat 20), (0, .ofNat 0, .ofNat 0)), (2, 3, (4, .ofNat 1, .ofNat 0), (0, .ofNat 0, .ofNat 1), (0, .ofNat 0, .ofNat 0)), (2, 1, (0, .ofNat 0, .ofNat 1), (0, .ofNat 0, .ofNat 0), (0, .ofNat 0, .ofNat 0)), (2, 2, (2, .ofNat 1, .ofNat 0), (0, .ofNat 0, .ofNat 3), (0, .ofNat 0, .ofNat 0)), (2, 3, (2, .ofNat 1, .ofNat 0), (0, .ofNat 0, .ofNat 0), (0, .ofNat 0, .ofNat 0)), (2, 1, (0, .ofNat 0, .ofNat 1), (0, .ofNat 0, .ofNat 0), (0, .ofNat 0, .ofNat 0)), (2, 2, (1, .ofNat 1, .ofNat 0), (0, .ofNat 0, .ofNat 4), (0, .ofNat 0, .ofNat 0)), (2, 3, (1, .ofNat 1, .ofNat 0), (0, .ofNat 0, .ofNat 0), (0, .ofNat 0, .ofNat 0))], [(1, [(.ofNat 1, .ofNat 1)]), (2, [(.ofNat 0, .ofNat 2)]), (3, [(.ofNat 0, .ofNat 2147483647)]), (4, [(.ofNat 1, .ofNat 20)]), (5, [(.ofNat 0, .ofNat 1000)]), (6, [(.ofNat 0, .ofNat 2)]), (7, [(.ofNat 0, .ofNat 60)]), (8, [(.negSucc 19, .ofNat 59)])], [((7, .ofNat 1, .ofNat 0), (4, .negSucc 0, .ofNat 0), (8, .ofNat 1, .ofNat 0))], []),
  (89, [(0, .inr (.inl [0])), (1, .inl (false, (0, .ofNat 0, .ofNat 1))), (2, .inl (false, (2, .ofNat 1, .ofNat 0))), (3, .inl (false, (3, .ofNat 1, .ofNat 0))), (4, .inl (false, (4, .ofNat 1, .ofNat 0))), (5, .inl (false, (5, .ofNat 1, .ofNat 0))), (6, .inl (false, (0, .ofNat 0, .ofNat 0)))], [], [(2, 0, (0, .ofNat 0, .ofNat 0), (0, .ofNat 0, .ofNat 0), (0, .ofNat 0, .ofNat 0)), (2, 1, (0, .ofNat 0, .ofNat 1), (0, .ofNat 0, .ofNat 0), (0, .ofNat 0, .ofNat 0)), (2, 5, (3, .ofNat 1, .ofNat 0), (8, .ofNat 1, .ofNat 0), (0, .ofNat 0, .ofNat 0)), (0, 116, (0, .ofNat 0, .ofNat 0), (7, .ofNat 1, .ofNat 0), (0, .ofNat 0, .ofNat 0)), (2, 3, (3, .ofNat 1, .ofNat 0), (0, .ofNat 0, .ofNat 0), (0, .ofNat 0, .ofNat 0)), (2, 0, (0, .ofNat 0, .ofNat 0), (0, .ofNat 0, .ofNat 0), (0, .ofNat 0, .ofNat 0)), (2, 0, (6, .ofNat 1, .ofNat 0), (2, .ofNat 1, .ofNat 0), (0, .ofNat 0, .ofNat 0)), (0, 116, (0, .ofNat 0, .ofNat 2), (6, .ofNat 1, .ofNat 0), (0, .ofNat 0, .ofNat 0)), (2, 0, (0, .ofNat 0, .ofNat 0), (0, .ofNat 0, .ofNat 0), (0, .ofNat 0, .ofNat 0)), (2, 1, (6, .ofNat 1, .ofNat 0), (0, .ofNat 0, .negSucc 0), (0, .ofNat 0, .ofNat 0)), (0, 116, (0, .ofNat 0, .ofNat 2), (6, .ofNat 1, .ofNat 0), (0, .ofNat 0, .ofNat 0)), (2, 5, (5, .ofNat 1, .ofNat 0), (0, .ofNat 0, .ofNat 1000), (0, .ofNat 0, .ofNat 0)), (2, 3, (5, .ofNat 1, .ofNat 0), (0, .ofNat 0, .ofNat 0), (0, .ofNat 0, .ofNat 0)), (2, 5, (4, .ofNat 1, .ofNat 0), (0, .ofNat 0, .ofNat 20), (0, .ofNat 0, .ofNat 0)), (2, 3, (4, .ofNat 1, .ofNat 0), (0, .ofNat 0, .ofNat 1), (0, .ofNat 0, .ofNat 0)), (2, 1, (0, .ofNat 0, .ofNat 1), (0, .ofNat 0, .ofNat 0), (0, .ofNat 0, .ofNat 0)), (2, 2, (2, .ofNat 1, .ofNat 0), (0, .ofNat 0, .ofNat 3), (0, .ofNat 0, .ofNat 0)), (2, 3, (2, .ofNat 1, .ofNat 0), (0, .ofNat 0, .ofNat 0), (0, .ofNat 0, .ofNat 0)), (2, 1, (0, .ofNat 0, .ofNat 1), (0, .ofNat 0, .ofNat 0), (0, .ofNat 0, .ofNat 0)), (2, 2, (1, .ofNat 1, .ofNat 0), (0, .ofNat 0, .ofNat 4), (0, .ofNat 0, .ofNat 0)), (2, 3, (1, .ofNat 1, .ofNat 0), (0, .ofNat 0, .ofNat 0), (0, .ofNat 0, .ofNat 0))], [(1, [(.ofNat 1, .ofNat 1)]), (2, [(.ofNat 0, .ofNat 2)]), (3, [(.ofNat 0, .ofNat 59)]), (4, [(.ofNat 1, .ofNat 20)]), (5, [(.ofNat 0, .ofNat 1000)]), (6, [(.ofNat 0, .ofNat 2)]), (7, [(.ofNat 0, .ofNat 60)]), (8, [(.ofNat 0, .ofNat 59)])], [((7, .ofNat 1, .ofNat 0), (4, .negSucc 0, .ofNat 0), (8, .ofNat 1, .ofNat 0))], []),
  (0, [], [.inl (false, (0, .ofNat 0, .negSucc 10))], [(2, 1, (0, .ofNat 0, .ofNat 1), (0, .ofNat 0, .ofNat 0), (0, .ofNat 0, .ofNat 0)), (2, 1, (0, .ofNat 0, .ofNat 1), (0, .ofNat 0, .ofNat 0), (0, .ofNat 0, .ofNat 0)), (2, 1, (0, .ofNat 0, .ofNat 1), (0, .ofNat 0, .ofNat 0), (0, .ofNat 0, .ofNat 0)), (2, 0, (6, .ofNat 1, .ofNat 0), (0, .ofNat 0, .negSucc 0), (0, .ofNat 0, .ofNat 0)), (0, 116, (0, .ofNat 0, .ofNat 2), (6, .ofNat 1, .ofNat 0), (0, .ofNat 0, .ofNat 0)), (2, 5, (5, .ofNat 1, .ofNat 0), (0, .ofNat 0, .ofNat 1000), (0, .ofNat 0, .ofNat 0)), (2, 3, (5, .ofNat 1, .ofNat 0), (0, .ofNat 0, .ofNat 0), (0, .ofNat 0, .ofNat 0)), (2, 5, (4, .ofNat 1, .ofNat 0), (0, .ofNat 0, .ofNat 20), (0, .ofNat 0, .ofNat 0)), (2, 3, (4, .ofNat 1, .ofNat 0), (0, .ofNat 0, .ofNat 1), (0, .ofNat 0, .ofNat 0)), (2, 1, (0, .ofNat 0, .ofNat 1), (0, .ofNat 0, .ofNat 0), (0, .ofNat 0, .ofNat 0)), (2, 2, (2, .ofNat 1, .ofNat 0), (0, .ofNat 0, .ofNat 3), (0, .ofNat 0, .ofNat 0)), (2, 3, (2, .ofNat 1, .ofNat 0), (0, .ofNat 0, .ofNat 0), (0, .ofNat 0, .ofNat 0)), (2, 1, (0, .ofNat 0, .ofNat 1), (0, .ofNat 0, .ofNat 0), (0, .ofNat 0, .ofNat 0)), (2, 2, (1, .ofNat 1, .ofNat 0), (0, .ofNat 0, .ofNat 4), (0, .ofNat 0, .ofNat 0)), (2, 3, (1, .ofNat 1, .ofNat 0), (0, .ofNat 0, .ofNat 0), (0, .ofNat 0, .ofNat 0))], [(1, [(.ofNat 1, .ofNat 1)]), (2, [(.ofNat 0, .ofNat 2)]), (4, [(.ofNat 1, .ofNat 20)]), (5, [(.ofNat 0, .ofNat 1000)]), (6, [(.negSucc 0, .negSucc 0)])], [], []),
  (0, [], [.inl (false, (0, .ofNat 0, .negSucc 12))], [(2, 1, (0, .ofNat 0, .ofNat 3), (0, .ofNat 0, .ofNat 0), (0, .ofNat 0, .ofNat 0)), (2, 1, (0, .ofNat 0, .ofNat 3), (0, .ofNat 0, .ofNat 0), (0, .ofNat 0, .ofNat 0)), (2, 1, (6, .ofNat 1, .ofNat 0), (2, .ofNat 1, .ofNat 0), (0, .ofNat 0, .ofNat 0)), (0, 114, (0, .ofNat 0, .ofNat 2), (6, .ofNat 1, .ofNat 0), (0, .ofNat 0, .ofNat 0)), (2, 0, (0, .ofNat 0, .ofNat 0), (0, .ofNat 0, .ofNat 0), (0, .ofNat 0, .ofNat 0)), (2, 1, (6, .ofNat 1, .ofNat 0), (0, .ofNat 0, .negSucc 0), (0, .ofNat 0, .ofNat 0)), (0, 114, (0, .ofNat 0, .ofNat 2), (6, .ofNat 1, .ofNat 0), (0, .ofNat 0, .ofNat 0)), (2, 5, (5, .ofNat 1, .ofNat 0), (0, .ofNat 0, .ofNat 1000), (0, .ofNat 0, .ofNat 0)), (2, 3, (5, .ofNat 1, .ofNat 0), (0, .ofNat 0, .ofNat 0), (0, .ofNat 0, .ofNat 0)), (2, 5, (4, .ofNat 1, .ofNat 0), (0, .ofNat 0, .ofNat 20), (0, .ofNat 0, .ofNat 0)), (2, 3, (4, .ofNat 1, .ofNat 0), (0, .ofNat 0, .ofNat 1), (0, .ofNat 0, .ofNat 0)), (2, 1, (0, .ofNat 0, .ofNat 1), (0, .ofNat 0, .ofNat 0), (0, .ofNat 0, .ofNat 0)), (2, 2, (2, .ofNat 1, .ofNat 0), (0, .ofNat 0, .ofNat 3), (0, .ofNat 0, .ofNat 0)), (2, 3, (2, .ofNat 1, .ofNat 0), (0, .ofNat 0, .ofNat 0), (0, .ofNat 0, .ofNat 0)), (2, 1, (0, .ofNat 0, .ofNat 1), (0, .ofNat 0, .ofNat 0), (0, .ofNat 0, .ofNat 0)), (2, 2, (1, .ofNat 1, .ofNat 0), (0, .ofNat 0, .ofNat 4), (0, .ofNat 0, .ofNat 0)), (2, 3, (1, .ofNat 1, .ofNat 0), (0, .ofNat 0, .ofNat 0), (0, .ofNat 0, .ofNat 0))], [(1, [(.ofNat 0, .ofNat 0)]), (2, [(.ofNat 0, .ofNat 2)]), (4, [(.ofNat 1, .ofNat 20)]), (5, [(.ofNat 0, .ofNat 1000)]), (6, [(.ofNat 0, .ofNat 2)])], [], []),
  (0, [], [.inl (false, (0, .ofNat 0, .negSucc 11))], [(2, 1, (0, .ofNat 0, .ofNat 2), (0, .ofNat 0, .ofNat 0), (0, .ofNat 0, .ofNat 0)), (2, 0, (0, .ofNat 0, .ofNat 0), (0, .ofNat 0, .ofNat 0), (0, .ofNat 0, .ofNat 0)), (2, 2, (3, .ofNat 1, .ofNat 0), (0, .ofNat 0, .ofNat 0), (0, .ofNat 0, .ofNat 0)), (2, 0, (0, .ofNat 0, .ofNat 0), (0, .ofNat 0, .ofNat 0), (0, .ofNat 0, .ofNat 0)), (2, 0, (6, .ofNat 1, .ofNat 0), (2, .ofNat 1, .ofNat 0), (0, .ofNat 0, .ofNat 0)), (0, 114, (0, .ofNat 0, .ofNat 2), (6, .ofNat 1, .ofNat 0), (0, .ofNat 0, .ofNat 0)), (2, 0, (0, .ofNat 0, .ofNat 0), (0, .ofNat 0, .ofNat 0), (0, .ofNat 0, .ofNat 0)), (2, 1, (6, .ofNat 1, .ofNat 0), (0, .ofNat 0, .negSucc 0), (0, .ofNat 0, .ofNat 0)), (0, 114, (0, .ofNat 0, .ofNat 2), (6, .ofNat 1, .ofNat 0), (0, .ofNat 0, .ofNat 0)), (2, 5, (5, .ofNat 1, .ofNat 0), (0, .ofNat 0, .ofNat 1000), (0, .ofNat 0, .ofNat 0)), (2, 3, (5, .ofNat 1, .ofNat 0), (0, .ofNat 0, .ofNat 0), (0, .ofNat 0, .ofNat 0)), (2, 5, (4, .ofNat 1, .ofNat 0), (0, .ofNat 0, .ofNat 20), (0, .ofNat 0, .ofNat 0)), (2, 3, (4, .ofNat 1, .ofNat 0), (0, .ofNat 0, .ofNat 1), (0, .ofNat 0, .ofNat 0)), (2, 1, (0, .ofNat 0, .ofNat 1), (0, .ofNat 0, .ofNat 0), (0, .ofNat 0, .ofNat 0)), (2, 2, (2, .ofNat 1, .ofNat 0), (0, .ofNat 0, .ofNat 3), (0, .ofNat 0, .ofNat 0)), (2, 3, (2, .ofNat 1, .ofNat 0), (0, .ofNat 0, .ofNat 0), (0, .ofNat 0, .ofNat 0)), (2, 1, (0, .ofNat 0, .ofNat 1), (0, .ofNat 0, .ofNat 0), (0, .ofNat 0, .ofNat 0)), (2, 2, (1, .ofNat 1, .ofNat 0), (0, .ofNat 0, .ofNat 4), (0, .ofNat 0, .ofNat 0)), (2, 3, (1, .ofNat 1, .ofNat 0), (0, .ofNat 0, .ofNat 0), (0, .ofNat 0, .ofNat 0))], [(1, [(.ofNat 0, .ofNat 0)]), (2, [(.ofNat 0, .ofNat 2)]), (3, [(.negSucc 2147483647, .negSucc 0)]), (4, [(.ofNat 1, .ofNat 20)]), (5, [(.ofNat 0, .ofNat 1000)]), (6, [(.ofNat 0, .ofNat 2)])], [], []),
  (0, [], [.inl (false, (0, .ofNat 0, .negSucc 11))], [(2, 1, (0, .ofNat 0, .ofNat 2), (0, .ofNat 0, .ofNat 0), (0, .ofNat 0, .ofNat 0)), (2, 0, (0, .ofNat 0, .ofNat 0), (0, .ofNat 0, .ofNat 0), (0, .ofNat 0, .ofNat 0)), (2, 4, (3, .ofNat 1, .ofNat 0), (8, .ofNat 1, .ofNat 0), (0, .ofNat 0, .ofNat 0)), (0, 114, (0, .ofNat 0, .ofNat 0), (7, .ofNat 1, .ofNat 0), (0, .ofNat 0, .ofNat 0)), (2, 3, (3, .ofNat 1, .ofNat 0), (0, .ofNat 0, .ofNat 0), (0, .ofNat 0, .ofNat 0)), (2, 0, (0, .ofNat 0, .ofNat 0), (0, .ofNat 0, .ofNat 0), (0, .ofNat 0, .ofNat 0)), (2, 0, (6, .ofNat 1, .ofNat 0), (2, .ofNat 1, .ofNat 0), (0, .ofNat 0, .ofNat 0)), (0, 114, (0, .ofNat 0, .ofNat 2), (6, .ofNat 1, .ofNat 0), (0, .ofNat 0, .ofNat 0)), (2, 0, (0, .ofNat 0, .ofNat 0), (0, .ofNat 0, .ofNat 0), (0, .ofNat 0, .ofNat 0)), (2, 1, (6, .ofNat 1, .ofNat 0), (0, .ofNat 0, .negSucc 0), (0, .ofNat 0, .ofNat 0)), (0, 114, (0, .ofNat 0, .ofNat 2), (6, .ofNat 1, .ofNat 0), (0, .ofNat 0, .ofNat 0)), (2, 5, (5, .ofNat 1, .ofNat 0), (0, .ofNat 0, .ofNat 1000), (0, .ofNat 0, .ofNat 0)), (2, 3, (5, .ofNat 1, .ofNat 0), (0, .ofNat 0, .ofNat 0), (0, .ofNat 0, .ofNat 0)), (2, 5, (4, .ofNat 1, .ofNat 0), (0, .ofNat 0, .ofNat 20), (0, .ofNat 0, .ofNat 0)), (2, 3, (4, .ofNat 1, .ofNat 0), (0, .ofNat 0, .ofNat 1), (0, .ofNat 0, .ofNat 0)), (2, 1, (0, .ofNat 0, .ofNat 1), (0, .ofNat 0, .ofNat 0), (0, .ofNat 0, .ofNat 0)), (2, 2, (2, .ofNat 1, .ofNat 0), (0, .ofNat 0, .ofNat 3), (0, .ofNat 0, .ofNat 0)), (2, 3, (2, .ofNat 1, .ofNat 0), (0, .ofNat 0, .ofNat 0), (0, .ofNat 0, .ofNat 0)), (2, 1, (0, .ofNat 0, .ofNat 1), (0, .ofNat 0, .ofNat 0), (0, .ofNat 0, .ofNat 0)), (2, 2, (1, .ofNat 1, .ofNat 0), (0, .ofNat 0, .ofNat 4), (0, .ofNat 0, .ofNat 0)), (2, 3, (1, .ofNat 1, .ofNat 0), (0, .ofNat 0, .ofNat 0), (0, .ofNat 0, .ofNat 0))], [(1, [(.ofNat 0, .ofNat 0)]), (2, [(.ofNat 0, .ofNat 2)]), (3, [(.ofNat 0, .ofNat 2147483647)]), (4, [(.ofNat 1, .ofNat 20)]), (5, [(.ofNat 0, .ofNat 1000)]), (6, [(.ofNat 0, .ofNat 2)]), (7, [(.ofNat 0, .ofNat 60)]), (8, [(.negSucc 19, .ofNat 59)])], [((7, .ofNat 1, .ofNat 0), (4, .negSucc 0, .ofNat 0), (8, .ofNat 1, .ofNat 0))], []),
  (89, [(0, .inr (.inl [0])), (1, .inl (false, (0, .ofNat 0, .ofNat 0))), (2, .inl (false, (2, .ofNat 1, .ofNat 0))), (3, .inl (false, (3, .ofNat 1, .ofNat 0))), (4, .inl (false, (4, .ofNat 1, .ofNat 0))), (5, .inl (false, (5, .ofNat 1, .ofNat 0))), (6, .inl (false, (0, .ofNat 0, .ofNat 0)))], [], [(2, 0, (0, .ofNat 0, .ofNat 0), (0, .ofNat 0, .ofNat 0), (0, .ofNat 0, .ofNat 0)), (2, 1, (0, .ofNat 0, .ofNat 1), (0, .ofNat 0, .ofNat 0), (0, .ofNat 0, .ofNat 0)), (2, 5, (3, .ofNat 1, .ofNat 0), (8, .ofNat 1, .ofNat 0), (0, .ofNat 0, .ofNat 0)), (0, 114, (0, .ofNat 0, .ofNat 0), (7, .ofNat 1, .ofNat 0), (0, .ofNat 0, .ofNat 0)), (2, 3, (3, .ofNat 1, .ofNat 0), (0, .ofNat 0, .ofNat 0), (0, .ofNat 0, .ofNat 0)), (2, 0, (0, .ofNat 0, .ofNat 0), (0, .ofNat 0, .ofNat 0), (0, .ofNat 0, .ofNat 0)), (2, 0, (6, .ofNat 1, .ofNat 0), (2, .ofNat 1, .ofNat 0), (0, .ofNat 0, .ofNat 0)), (0, 114, (0, .ofNat 0, .ofNat 2), (6, .ofNat 1, .ofNat 0), (0, .ofNat 0, .ofNat 0)), (2, 0, (0, .ofNat 0, .ofNat 0), (0, .ofNat 0, .ofNat 0), (0, .ofNat 0, .ofNat 0)), (2, 1, (6, .ofNat 1, .ofNat 0), (0, .ofNat 0, .negSucc 0), (0, .ofNat 0, .ofNat 0)), (0, 114, (0, .ofNat 0, .ofNat 2), (6, .ofNat 1, .ofNat 0), (0, .ofNat 0, .ofNat 0)), (2, 5, (5, .ofNat 1, .ofNat 0), (0, .ofNat 0, .ofNat 1000), (0, .ofNat 0, .ofNat 0)), (2, 3, (5, .ofNat 1, .ofNat 0), (0, .ofNat 0, .ofNat 0), (0, .ofNat 0, .ofNat 0)), (2, 5, (4, .ofNat 1, .ofNat 0), (0, .ofNat 0, .ofNat 20), (0, .ofNat 0, .ofNat 0)), (2, 3, (4, .ofNat 1, .ofNat 0), (0, .ofNat 0, .ofNat 1), (0, .ofNat 0, .ofNat 0)), (2, 1, (0, .ofNat 0, .ofNat 1), (0, .ofNat 0, .ofNat 0), (0, .ofNat 0, .ofNat 0)), (2, 2, (2, .ofNat 1, .ofNat 0), (0, .ofNat 0, .ofNat 3), (0, .ofNat 0, .ofNat 0)), (2, 3, (2, .ofNat 1, .ofNat 0), (0, .ofNat 0, .ofNat 0), (0, .ofNat 0, .ofNat 0)), (2, 1, (0, .ofNat 0, .ofNat 1), (0, .ofNat 0, .ofNat 0), (0, .ofNat 0, .ofNat 0)), (2, 2, (1, .ofNat 1, .ofNat 0), (0, .ofNat 0, .ofNat 4), (0, .ofNat 0, .ofNat 0)), (2, 3, (1, .ofNat 1, .ofNat 0), (0, .ofNat 0, .ofNat 0), (0, .ofNat 0, .ofNat 0))], [(1, [(.ofNat 0, .ofNat 0)]), (2, [(.ofNat 0, .ofNat 2)]), (3, [(.ofNat 0, .ofNat 59)]), (4, [(.ofNat 1, .ofNat 20)]), (5, [(.ofNat 0, .ofNat 1000)]), (6, [(.ofNat 0, .ofNat 2)]), (7, [(.ofNat 0, .ofNat 60)]), (8, [(.ofNat 0, .ofNat 59)])], [((7, .ofNat 1, .ofNat 0), (4, .negSucc 0, .ofNat 0), (8, .ofNat 1, .ofNat 0))], []),
  (0, [], [.inl (false, (0, .ofNat 0, .negSucc 10))], [(2, 1, (0, .ofNat 0, .ofNat 1), (0, .ofNat 0, .ofNat 0), (0, .ofNat 0, .ofNat 0)), (2, 1, (0, .ofNat 0, .ofNat 1), (0, .ofNat 0, .ofNat 0), (0, .ofNat 0, .ofNat 0)), (2, 1, (0, .ofNat 0, .ofNat 1), (0, .ofNat 0, .ofNat 0), (0, .ofNat 0, .ofNat 0)), (2, 0, (6, .ofNat 1, .ofNat 0), (0, .ofNat 0, .negSucc 0), (0, .ofNat 0, .ofNat 0)), (0, 114, (0, .ofNat 0, .ofNat 2), (6, .ofNat 1, .ofNat 0), (0, .ofNat 0, .ofNat 0)), (2, 5, (5, .ofNat 1, .ofNat 0), (0, .ofNat 0, .ofNat 1000), (0, .ofNat 0, .ofNat 0)), (2, 3, (5, .ofNat 1, .ofNat 0), (0, .ofNat 0, .ofNat 0), (0, .ofNat 0, .ofNat 0)), (2, 5, (4, .ofNat 1, .ofNat 0), (0, .ofNat 0, .ofNat 20), (0, .ofNat 0, .ofNat 0)), (2, 3, (4, .ofNat 1, .ofNat 0), (0, .ofNat 0, .ofNat 1), (0, .ofNat 0, .ofNat 0)), (2, 1, (0, .ofNat 0, .ofNat 1), (0, .ofNat 0, .ofNat 0), (0, .ofNat 0, .ofNat 0)), (2, 2, (2, .ofNat 1, .ofNat 0), (0, .ofNat 0, .ofNat 3), (0, .ofNat 0, .ofNat 0)), (2, 3, (2, .ofNat 1, .ofNat 0), (0, .ofNat 0, .ofNat 0), (0, .ofNat 0, .ofNat 0)), (2, 1, (0, .ofNat 0, .ofNat 1), (0, .ofNat 0, .ofNat 0), (0, .ofNat 0, .ofNat 0)), (2, 2, (1, .ofNat 1, .ofNat 0), (0, .ofNat 0, .ofNat 4), (0, .ofNat 0, .ofNat 0)), (2, 3, (1, .ofNat 1, .ofNat 0), (0, .ofNat 0, .ofNat 0), (0, .ofNat 0, .ofNat 0))], [(1, [(.ofNat 0, .ofNat 0)]), (2, [(.ofNat 0, .ofNat 2)]), (4, [(.ofNat 1, .ofNat 20)]), (5, [(.ofNat 0, .ofNat 1000)]), (6, [(.negSucc 0, .negSucc 0)])], [], []),
  (0, [], [.inl (false, (0, .ofNat 0, .negSucc 0))], [(2, 4, (5, .ofNat 1, .ofNat 0), (0, .ofNat 0, .ofNat 1000), (0, .ofNat 0, .ofNat 0)), (2, 3, (5, .ofNat 1, .ofNat 0), (0, .ofNat 0, .ofNat 0), (0, .ofNat 0, .ofNat 0)), (2, 5, (4, .ofNat 1, .ofNat 0), (0, .ofNat 0, .ofNat 20), (0, .ofNat 0, .ofNat 0)), (2, 3, (4, .ofNat 1, .ofNat 0), (0, .ofNat 0, .ofNat 1), (0, .ofNat 0, .ofNat 0)), (2, 1, (0, .ofNat 0, .ofNat 1), (0, .ofNat 0, .ofNat 0), (0, .ofNat 0, .ofNat 0)), (2, 2, (2, .ofNat 1, .ofNat 0), (0, .ofNat 0, .ofNat 3), (0, .ofNat 0, .ofNat 0)), (2, 3, (2, .ofNat 1, .ofNat 0), (0, .ofNat 0, .ofNat 0), (0, .ofNat 0, .ofNat 0)), (2, 1, (0, .ofNat 0, .ofNat 1), (0, .ofNat 0, .ofNat 0), (0, .ofNat 0, .ofNat 0)), (2, 2, (1, .ofNat 1, .ofNat 0), (0, .ofNat 0, .ofNat 4), (0, .ofNat 0, .ofNat 0)), (2, 3, (1, .ofNat 1, .ofNat 0), (0, .ofNat 0, .ofNat 0), (0, .ofNat 0, .ofNat 0))], [(1, [(.ofNat 0, .ofNat 3)]), (2, [(.ofNat 0, .ofNat 2)]), (4, [(.ofNat 1, .ofNat 20)]), (5, [(.ofNat 1001, .ofNat 2147483647)])], [], [])]
set_option maxRecDepth 1000000 in
theorem sg_mh_x0_g : sg_go [(8454187, .inr 1)] [88] 3000 129 0 2 6 [(0, [(.ofNat 0, .ofNat 0)]), (1, [(.negSucc 2147483647, .ofNat 2147483647)]), (2, [(.negSucc 2147483647, .ofNat 2147483647)]), (3, [(.negSucc 2147483647, .ofNat 2147483647)]), (4, [(.negSucc 2147483647, .ofNat 2147483647)]), (5, [(.negSucc 2147483647, .ofNat 2147483647)])] [] [] [] [(0, .inr (.inl [0])), (1, .inl (false, (1, .ofNat 1, .ofNat 0))), (2, .inl (false, (2, .ofNat 1, .ofNat 0))), (3, .inl (false, (3, .ofNat 1, .ofNat 0))), (4, .inl (false, (4, .ofNat 1, .ofNat 0))), (5, .inl (false, (5, .ofNat 1, .ofNat 0)))] [] [] sg_mh_x0_Z = true := by decide +kernel
set_option maxRecDepth 100000 in
theorem sg_mh_x0 {Q : Option Value × am_S → Prop} {d : Nat} {S : am_S} {L : am_L} {x1 x2 x3 x4 x5 : Int} (hd : 2 ≤ d) (hP : ax_P0 none S) (l0 : lc L 0 0) (l1 : li L 1 x1) (l2 : li L 2 x2) (l3 : li L 3 x3) (l4 : li L 4 x4) (l5 : li L 5 x5) (b1 : ((-2147483648) ≤ x1 ∧ x1 ≤ 2147483647)) (b2 : ((-2147483648) ≤ x2 ∧ x2 ≤ 2147483647)) (b3 : ((-2147483648) ≤ x3 ∧ x3 ≤ 2147483647)) (b4 : ((-2147483648) ≤ x4 ∧ x4 ≤ 2147483647)) (b5 : ((-2147483648) ≤ x5 ∧ x5 ≤ 2147483647))
    (k0 : ∀ (i1 : Int32), x1 < 0 → ((-2147483648) ≤ x1 ∧ x1 ≤ (-1)) → i1.toInt = (-1) → Q (some (.int i1), S))
    (k1 : ∀ (i1 : Int32), 0 ≤ x1 → 4 ≤ x1 → (4 ≤ x1 ∧ x1 ≤ 2147483647) → i1.toInt = (-1) → Q (some (.int i1), S))
    (k2 : ∀ (i1 : Int32), 0 ≤ x1 → x1 < 4 → x2 < 0 → (0 ≤ x1 ∧ x1 ≤ 3) → ((-2147483648) ≤ x2 ∧ x2 ≤ (-1)) → i1.toInt = (-1) → Q (some (.int i1), S))
    (k3 : ∀ (i1 : Int32), 0 ≤ x1 → x1 < 4 → 0 ≤ x2 → 3 ≤ x2 → (0 ≤ x1 ∧ x1 ≤ 3) → (3 ≤ x2 ∧ x2 ≤ 2147483647) → i1.toInt = (-1) → Q (some (.int i1), S))
    (k4 : ∀ (i1 : Int32), 0 ≤ x1 → x1 < 4 → 0 ≤ x2 → x2 < 3 → x4 < 1 → (0 ≤ x1 ∧ x1 ≤ 3) → (0 ≤ x2 ∧ x2 ≤ 2) → ((-2147483648) ≤ x4 ∧ x4 ≤ 0) → i1.toInt = (-1) → Q (some (.int i1), S))
    (k5 : ∀ (i1 : Int32), 0 ≤ x1 → x1 < 4 → 0 ≤ x2 → x2 < 3 → 1 ≤ x4 → 20 < x4 → (0 ≤ x1 ∧ x1 ≤ 3) → (0 ≤ x2 ∧ x2 ≤ 2) → (21 ≤ x4 ∧ x4 ≤ 2147483647) → i1.toInt = (-1) → Q (some (.int i1), S))
    (k6 : ∀ (i1 : Int32), 0 ≤ x1 → x1 < 4 → 0 ≤ x2 → x2 < 3 → 1 ≤ x4 → x4 ≤ 20 → x5 < 0 → (0 ≤ x1 ∧ x1 ≤ 3) → (0 ≤ x2 ∧ x2 ≤ 2) → (1 ≤ x4 ∧ x4 ≤ 20) → ((-2147483648) ≤ x5 ∧ x5 ≤ (-1)) → i1.toInt = (-1) → Q (some (.int i1), S))
    (k7 : ∀ (x6 : Int) (i1 : Int32), 0 ≤ x1 → x1 < 4 → 0 ≤ x2 → x2 < 3 → 1 ≤ x4 → x4 ≤ 20 → 0 ≤ x5 → x5 ≤ 1000 → rd S 120 2 = x6 → x6 ≠ (-1) → x6 ≠ x2 → (3 ≤ x1 ∧ x1 ≤ 3) → (0 ≤ x2 ∧ x2 ≤ 2) → (1 ≤ x4 ∧ x4 ≤ 20) → (0 ≤ x5 ∧ x5 ≤ 1000) → (0 ≤ x6 ∧ x6 ≤ 2) → i1.toInt = (-13) → Q (some (.int i1), S))
    (k8 : ∀ (x6 : Int) (i1 : Int32), 0 ≤ x1 → x1 < 4 → 0 ≤ x2 → x2 < 3 → 1 ≤ x4 → x4 ≤ 20 → 0 ≤ x5 → x5 ≤ 1000 → rd S 120 2 = x6 → x6 ≠ (-1) → x6 = x2 → x3 < 0 → (3 ≤ x1 ∧ x1 ≤ 3) → (0 ≤ x2 ∧ x2 ≤ 2) → ((-2147483648) ≤ x3 ∧ x3 ≤ (-1)) → (1 ≤ x4 ∧ x4 ≤ 20) → (0 ≤ x5 ∧ x5 ≤ 1000) → (0 ≤ x6 ∧ x6 ≤ 2) → i1.toInt = (-12) → Q (some (.int i1), S))
    (k9 : ∀ (x6 x7 x8 : Int) (i1 : Int32), 0 ≤ x1 → x1 < 4 → 0 ≤ x2 → x2 < 3 → 1 ≤ x4 → x4 ≤ 20 → 0 ≤ x5 → x5 ≤ 1000 → rd S 120 2 = x6 → x6 ≠ (-1) → x6 = x2 → 0 ≤ x3 → rd S 120 0 = x7 → x8 < x3 → (3 ≤ x1 ∧ x1 ≤ 3) → (0 ≤ x2 ∧ x2 ≤ 2) → (0 ≤ x3 ∧ x3 ≤ 2147483647) → (1 ≤ x4 ∧ x4 ≤ 20) → (0 ≤ x5 ∧ x5 ≤ 1000) → (0 ≤ x6 ∧ x6 ≤ 2) → (0 ≤ x7 ∧ x7 ≤ 60) → ((-20) ≤ x8 ∧ x8 ≤ 59) → x7 + ((-1) * x4 + 0) = x8 → i1.toInt = (-12) → Q (some (.int i1), S))
    (k10 : ∀ (x6 x7 x8 : Int) (L' : am_L), 0 ≤ x1 → x1 < 4 → 0 ≤ x2 → x2 < 3 → 1 ≤ x4 → x4 ≤ 20 → 0 ≤ x5 → x5 ≤ 1000 → rd S 120 2 = x6 → x6 ≠ (-1) → x6 = x2 → 0 ≤ x3 → rd S 120 0 = x7 → x3 ≤ x8 → (3 ≤ x1 ∧ x1 ≤ 3) → (0 ≤ x2 ∧ x2 ≤ 2) → (0 ≤ x3 ∧ x3 ≤ 59) → (1 ≤ x4 ∧ x4 ≤ 20) → (0 ≤ x5 ∧ x5 ≤ 1000) → (0 ≤ x6 ∧ x6 ≤ 2) → (0 ≤ x7 ∧ x7 ≤ 60) → (0 ≤ x8 ∧ x8 ≤ 59) → x7 + ((-1) * x4 + 0) = x8 → lc L' 0 0 → li L' 1 3 → li L' 2 x2 → li L' 3 x3 → li L' 4 x4 → li L' 5 x5 → li L' 6 0 → am_V none d 129 88 L' ([]) S Q)
    (k11 : ∀ (x6 : Int) (i1 : Int32), 0 ≤ x1 → x1 < 4 → 0 ≤ x2 → x2 < 3 → 1 ≤ x4 → x4 ≤ 20 → 0 ≤ x5 → x5 ≤ 1000 → rd S 120 2 = x6 → x6 = (-1) → (3 ≤ x1 ∧ x1 ≤ 3) → (0 ≤ x2 ∧ x2 ≤ 2) → (1 ≤ x4 ∧ x4 ≤ 20) → (0 ≤ x5 ∧ x5 ≤ 1000) → ((-1) ≤ x6 ∧ x6 ≤ (-1)) → i1.toInt = (-11) → Q (some (.int i1), S))
    (k12 : ∀ (x6 : Int) (i1 : Int32), 0 ≤ x1 → x1 < 4 → 0 ≤ x2 → x2 < 3 → 1 ≤ x4 → x4 ≤ 20 → 0 ≤ x5 → x5 ≤ 1000 → rd S 118 2 = x6 → x6 ≠ (-1) → x6 ≠ x2 → (2 ≤ x1 ∧ x1 ≤ 2) → (0 ≤ x2 ∧ x2 ≤ 2) → (1 ≤ x4 ∧ x4 ≤ 20) → (0 ≤ x5 ∧ x5 ≤ 1000) → (0 ≤ x6 ∧ x6 ≤ 2) → i1.toInt = (-13) → Q (some (.int i1), S))
    (k13 : ∀ (x6 : Int) (i1 : Int32), 0 ≤ x1 → x1 < 4 → 0 ≤ x2 → x2 < 3 → 1 ≤ x4 → x4 ≤ 20 → 0 ≤ x5 → x5 ≤ 1000 → rd S 118 2 = x6 → x6 ≠ (-1) → x6 = x2 → x3 < 0 → (2 ≤ x1 ∧ x1 ≤ 2) → (0 ≤ x2 ∧ x2 ≤ 2) → ((-2147483648) ≤ x3 ∧ x3 ≤ (-1)) → (1 ≤ x4 ∧ x4 ≤ 20) → (0 ≤ x5 ∧ x5 ≤ 1000) → (0 ≤ x6 ∧ x6 ≤ 2) → i1.toInt = (-12) → Q (some (.int i1), S))
    (k14 : ∀ (x6 x7 x8 : Int) (i1 : Int32), 0 ≤ x1 → x1 < 4 → 0 ≤ x2 → x2 < 3 → 1 ≤ x4 → x4 ≤ 20 → 0 ≤ x5 → x5 ≤ 1000 → rd S 118 2 = x6 → x6 ≠ (-1) → x6 = x2 → 0 ≤ x3 → rd S 118 0 = x7 → x8 < x3 → (2 ≤ x1 ∧ x1 ≤ 2) → (0 ≤ x2 ∧ x2 ≤ 2) → (0 ≤ x3 ∧ x3 ≤ 2147483647) → (1 ≤ x4 ∧ x4 ≤ 20) → (0 ≤ x5 ∧ x5 ≤ 1000) → (0 ≤ x6 ∧ x6 ≤ 2) → (0 ≤ x7 ∧ x7 ≤ 60) → ((-20) ≤ x8 ∧ x8 ≤ 59) → x7 + ((-1) * x4 + 0) = x8 → i1.toInt = (-12) → Q (some (.int i1), S))
    (k15 : ∀ (x6 x7 x8 : Int) (L' : am_L), 0 ≤ x1 → x1 < 4 → 0 ≤ x2 → x2 < 3 → 1 ≤ x4 → x4 ≤ 20 → 0 ≤ x5 → x5 ≤ 1000 → rd S 118 2 = x6 → x6 ≠ (-1) → x6 = x2 → 0 ≤ x3 → rd S 118 0 = x7 → x3 ≤ x8 → (2 ≤ x1 ∧ x1 ≤ 2) → (0 ≤ x2 ∧ x2 ≤ 2) → (0 ≤ x3 ∧ x3 ≤ 59) → (1 ≤ x4 ∧ x4 ≤ 20) → (0 ≤ x5 ∧ x5 ≤ 1000) → (0 ≤ x6 ∧ x6 ≤ 2) → (0 ≤ x7 ∧ x7 ≤ 60) → (0 ≤ x8 ∧ x8 ≤ 59) → x7 + ((-1) * x4 + 0) = x8 → lc L' 0 0 → li L' 1 2 → li L' 2 x2 → li L' 3 x3 → li L' 4 x4 → li L' 5 x5 → li L' 6 0 → am_V none d 129 88 L' ([]) S Q)
    (k16 : ∀ (x6 : Int) (i1 : Int32), 0 ≤ x1 → x1 < 4 → 0 ≤ x2 → x2 < 3 → 1 ≤ x4 → x4 ≤ 20 → 0 ≤ x5 → x5 ≤ 1000 → rd S 118 2 = x6 → x6 = (-1) → (2 ≤ x1 ∧ x1 ≤ 2) → (0 ≤ x2 ∧ x2 ≤ 2) → (1 ≤ x4 ∧ x4 ≤ 20) → (0 ≤ x5 ∧ x5 ≤ 1000) → ((-1) ≤ x6 ∧ x6 ≤ (-1)) → i1.toInt = (-11) → Q (some (.int i1), S))
    (k17 : ∀ (x6 : Int) (i1 : Int32), 0 ≤ x1 → x1 < 4 → 0 ≤ x2 → x2 < 3 → 1 ≤ x4 → x4 ≤ 20 → 0 ≤ x5 → x5 ≤ 1000 → rd S 116 2 = x6 → x6 ≠ (-1) → x6 ≠ x2 → (1 ≤ x1 ∧ x1 ≤ 1) → (0 ≤ x2 ∧ x2 ≤ 2) → (1 ≤ x4 ∧ x4 ≤ 20) → (0 ≤ x5 ∧ x5 ≤ 1000) → (0 ≤ x6 ∧ x6 ≤ 2) → i1.toInt = (-13) → Q (some (.int i1), S))
    (k18 : ∀ (x6 : Int) (i1 : Int32), 0 ≤ x1 → x1 < 4 → 0 ≤ x2 → x2 < 3 → 1 ≤ x4 → x4 ≤ 20 → 0 ≤ x5 → x5 ≤ 1000 → rd S 116 2 = x6 → x6 ≠ (-1) → x6 = x2 → x3 < 0 → (1 ≤ x1 ∧ x1 ≤ 1) → (0 ≤ x2 ∧ x2 ≤ 2) → ((-2147483648) ≤ x3 ∧ x3 ≤ (-1)) → (1 ≤ x4 ∧ x4 ≤ 20) → (0 ≤ x5 ∧ x5 ≤ 1000) → (0 ≤ x6 ∧ x6 ≤ 2) → i1.toInt = (-12) → Q (some (.int i1), S))
    (k19 : ∀ (x6 x7 x8 : Int) (i1 : Int32), 0 ≤ x1 → x1 < 4 → 0 ≤ x2 → x2 < 3 → 1 ≤ x4 → x4 ≤ 20 → 0 ≤ x5 → x5 ≤ 1000 → rd S 116 2 = x6 → x6 ≠ (-1) → x6 = x2 → 0 ≤ x3 → rd S 116 0 = x7 → x8 < x3 → (1 ≤ x1 ∧ x1 ≤ 1) → (0 ≤ x2 ∧ x2 ≤ 2) → (0 ≤ x3 ∧ x3 ≤ 2147483647) → (1 ≤ x4 ∧ x4 ≤ 20) → (0 ≤ x5 ∧ x5 ≤ 1000) → (0 ≤ x6 ∧ x6 ≤ 2) → (0 ≤ x7 ∧ x7 ≤ 60) → ((-20) ≤ x8 ∧ x8 ≤ 59) → x7 + ((-1) * x4 + 0) = x8 → i1.toInt = (-12) → Q (some (.int i1), S))
    (k20 : ∀ (x6 x7 x8 : Int) (L' : am_L), 0 ≤ x1 → x1 < 4 → 0 ≤ x2 → x2 < 3 → 1 ≤ x4 → x4 ≤ 20 → 0 ≤ x5 → x5 ≤ 1000 → rd S 116 2 = x6 → x6 ≠ (-1) → x6 = x2 → 0 ≤ x3 → rd S 116 0 = x7 → x3 ≤ x8 → (1 ≤ x1 ∧ x1 ≤ 1) → (0 ≤ x2 ∧ x2 ≤ 2) → (0 ≤ x3 ∧ x3 ≤ 59) → (1 ≤ x4 ∧ x4 ≤ 20) → (0 ≤ x5 ∧ x5 ≤ 1000) → (0 ≤ x6 ∧ x6 ≤ 2) → (0 ≤ x7 ∧ x7 ≤ 60) → (0 ≤ x8 ∧ x8 ≤ 59) → x7 + ((-1) * x4 + 0) = x8 → lc L' 0 0 → li L' 1 1 → li L' 2 x2 → li L' 3 x3 → li L' 4 x4 → li L' 5 x5 → li L' 6 0 → am_V none d 129 88 L' ([]) S Q)
    (k21 : ∀ (x6 : Int) (i1 : Int32), 0 ≤ x1 → x1 < 4 → 0 ≤ x2 → x2 < 3 → 1 ≤ x4 → x4 ≤ 20 → 0 ≤ x5 → x5 ≤ 1000 → rd S 116 2 = x6 → x6 = (-1) → (1 ≤ x1 ∧ x1 ≤ 1) → (0 ≤ x2 ∧ x2 ≤ 2) → (1 ≤ x4 ∧ x4 ≤ 20) → (0 ≤ x5 ∧ x5 ≤ 1000) → ((-1) ≤ x6 ∧ x6 ≤ (-1)) → i1.toInt = (-11) → Q (some (.int i1), S))
    (k22 : ∀ (x6 : Int) (i1 : Int32), 0 ≤ x1 → x1 < 4 → 0 ≤ x2 → x2 < 3 → 1 ≤ x4 → x4 ≤ 20 → 0 ≤ x5 → x5 ≤ 1000 → rd S 114 2 = x6 → x6 ≠ (-1) → x6 ≠ x2 → (0 ≤ x1 ∧ x1 ≤ 0) → (0 ≤ x2 ∧ x2 ≤ 2) → (1 ≤ x4 ∧ x4 ≤ 20) → (0 ≤ x5 ∧ x5 ≤ 1000) → (0 ≤ x6 ∧ x6 ≤ 2) → i1.toInt = (-13) → Q (some (.int i1), S))
    (k23 : ∀ (x6 : Int) (i1 : Int32), 0 ≤ x1 → x1 < 4 → 0 ≤ x2 → x2 < 3 → 1 ≤ x4 → x4 ≤ 20 → 0 ≤ x5 → x5 ≤ 1000 → rd S 114 2 = x6 → x6 ≠ (-1) → x6 = x2 → x3 < 0 → (0 ≤ x1 ∧ x1 ≤ 0) → (0 ≤ x2 ∧ x2 ≤ 2) → ((-2147483648) ≤ x3 ∧ x3 ≤ (-1)) → (1 ≤ x4 ∧ x4 ≤ 20) → (0 ≤ x5 ∧ x5 ≤ 1000) → (0 ≤ x6 ∧ x6 ≤ 2) → i1.toInt = (-12) → Q (some (.int i1), S))
    (k24 : ∀ (x6 x7 x8 : Int) (i1 : Int32), 0 ≤ x1 → x1 < 4 → 0 ≤ x2 → x2 < 3 → 1 ≤ x4 → x4 ≤ 20 → 0 ≤ x5 → x5 ≤ 1000 → rd S 114 2 = x6 → x6 ≠ (-1) → x6 = x2 → 0 ≤ x3 → rd S 114 0 = x7 → x8 < x3 → (0 ≤ x1 ∧ x1 ≤ 0) → (0 ≤ x2 ∧ x2 ≤ 2) → (0 ≤ x3 ∧ x3 ≤ 2147483647) → (1 ≤ x4 ∧ x4 ≤ 20) → (0 ≤ x5 ∧ x5 ≤ 1000) → (0 ≤ x6 ∧ x6 ≤ 2) → (0 ≤ x7 ∧ x7 ≤ 60) → ((-20) ≤ x8 ∧ x8 ≤ 59) → x7 + ((-1) * x4 + 0) = x8 → i1.toInt = (-12) → Q (some (.int i1), S))
    (k25 : ∀ (x6 x7 x8 : Int) (L' : am_L), 0 ≤ x1 → x1 < 4 → 0 ≤ x2 → x2 < 3 → 1 ≤ x4 → x4 ≤ 20 → 0 ≤ x5 → x5 ≤ 1000 → rd S 114 2 = x6 → x6 ≠ (-1) → x6 = x2 → 0 ≤ x3 → rd S 114 0 = x7 → x3 ≤ x8 → (0 ≤ x1 ∧ x1 ≤ 0) → (0 ≤ x2 ∧ x2 ≤ 2) → (0 ≤ x3 ∧ x3 ≤ 59) → (1 ≤ x4 ∧ x4 ≤ 20) → (0 ≤ x5 ∧ x5 ≤ 1000) → (0 ≤ x6 ∧ x6 ≤ 2) → (0 ≤ x7 ∧ x7 ≤ 60) → (0 ≤ x8 ∧ x8 ≤ 59) → x7 + ((-1) * x4 + 0) = x8 → lc L' 0 0 → li L' 1 0 → li L' 2 x2 → li L' 3 x3 → li L' 4 x4 → li L' 5 x5 → li L' 6 0 → am_V none d 129 88 L' ([]) S Q)
    (k26 : ∀ (x6 : Int) (i1 : Int32), 0 ≤ x1 → x1 < 4 → 0 ≤ x2 → x2 < 3 → 1 ≤ x4 → x4 ≤ 20 → 0 ≤ x5 → x5 ≤ 1000 → rd S 114 2 = x6 → x6 = (-1) → (0 ≤ x1 ∧ x1 ≤ 0) → (0 ≤ x2 ∧ x2 ≤ 2) → (1 ≤ x4 ∧ x4 ≤ 20) → (0 ≤ x5 ∧ x5 ≤ 1000) → ((-1) ≤ x6 ∧ x6 ≤ (-1)) → i1.toInt = (-11) → Q (some (.int i1), S))
    (k27 : ∀ (i1 : Int32), 0 ≤ x1 → x1 < 4 → 0 ≤ x2 → x2 < 3 → 1 ≤ x4 → x4 ≤ 20 → 0 ≤ x5 → 1000 < x5 → (0 ≤ x1 ∧ x1 ≤ 3) → (0 ≤ x2 ∧ x2 ≤ 2) → (1 ≤ x4 ∧ x4 ≤ 20) → (1001 ≤ x5 ∧ x5 ≤ 2147483647) → i1.toInt = (-1) → Q (some (.int i1), S)) : am_V none d 129 0 L ([]) S Q := by
  refine sg_use sg_mh_x0_g hd hP (sg_xs [0, x1, x2, x3, x4, x5]) ⟨⟨Int.le_refl 0, Int.le_refl 0⟩, b1, b2, b3, b4, b5, trivial⟩ trivial trivial trivial ⟨l0, l1, l2, l3, l4, l5, trivial⟩ trivial ?_
  intro z hz x' L' st' S' hx hP' hW hL' hs' hJ hE' hT' hD'
  have q1 : x' 1 = x1 := hx 1 (by decide)
  subst q1
  have q2 : x' 2 = x2 := hx 2 (by decide)
  subst q2
  have q3 : x' 3 = x3 := hx 3 (by decide)
  subst q3
  have q4 : x' 4 = x4 := hx 4 (by decide)
  subst q4
  have q5 : x' 5 = x5 := hx 5 (by decide)
  subst q5
  have eS : S' = S := hW.1 rfl
  subst eS
  simp only [sg_mh_x0_Z, List.mem_cons, List.not_mem_nil, or_false] at hz
  rcases hz with rfl | rfl | rfl | rfl | rfl | rfl | rfl | rfl | rfl | rfl | rfl | rfl | rfl | rfl | rfl | rfl | rfl | rfl | rfl | rfl | rfl | rfl | rfl | rfl | rfl | rfl | rfl | rfl
  · obtain ⟨f0, -, hσ⟩ := hJ
    obtain ⟨e0, -⟩ := hE'
    intro v hv
    subst hv
    cases v with
    | none => exact hs'.elim
    | some v1 =>
      obtain ⟨⟨i1, rfl, g1⟩, -⟩ := hs'
      exact k0 i1 f0 e0 g1
  · obtain ⟨f0, f1, -, hσ⟩ := hJ
    obtain ⟨e0, -⟩ := hE'
    intro v hv
    subst hv
    cases v with
    | none => exact hs'.elim
    | some v1 =>
      obtain ⟨⟨i1, rfl, g1⟩, -⟩ := hs'
      exact k1 i1 f0 f1 e0 g1
  · obtain ⟨f0, f1, -, f3, -, hσ⟩ := hJ
    obtain ⟨e0, e1, -⟩ := hE'
    intro v hv
    subst hv
    cases v with
    | none => exact hs'.elim
    | some v1 =>
      obtain ⟨⟨i1, rfl, g1⟩, -⟩ := hs'
      exact k2 i1 f0 f1 f3 e0 e1 g1
  · obtain ⟨f0, f1, -, f3, f4, -, hσ⟩ := hJ
    obtain ⟨e0, e1, -⟩ := hE'
    intro v hv
    subst hv
    cases v with
    | none => exact hs'.elim
    | some v1 =>
      obtain ⟨⟨i1, rfl, g1⟩, -⟩ := hs'
      exact k3 i1 f0 f1 f3 f4 e0 e1 g1
  · obtain ⟨f0, f1, -, f3, f4, -, f6, hσ⟩ := hJ
    obtain ⟨e0, e1, e2, -⟩ := hE'
    intro v hv
    subst hv
    cases v with
    | none => exact hs'.elim
    | some v1 =>
      obtain ⟨⟨i1, rfl, g1⟩, -⟩ := hs'
      exact k4 i1 f0 f1 f3 f4 f6 e0 e1 e2 g1
  · obtain ⟨f0, f1, -, f3, f4, -, f6, f7, hσ⟩ := hJ
    obtain ⟨e0, e1, e2, -⟩ := hE'
    intro v hv
    subst hv
    cases v with
    | none => exact hs'.elim
    | some v1 =>
      obtain ⟨⟨i1, rfl, g1⟩, -⟩ := hs'
      exact k5 i1 f0 f1 f3 f4 f6 f7 e0 e1 e2 g1
  · obtain ⟨f0, f1, -, f3, f4, -, f6, f7, f8, hσ⟩ := hJ
    obtain ⟨e0, e1, e2, e3, -⟩ := hE'
    intro v hv
    subst hv
    cases v with
    | none => exact hs'.elim
    | some v1 =>
      obtain ⟨⟨i1, rfl, g1⟩, -⟩ := hs'
      exact k6 i1 f0 f1 f3 f4 f6 f7 f8 e0 e1 e2 e3 g1
  · obtain ⟨f0, f1, -, f3, f4, -, f6, f7, f8, f9, f10, f11, -, -, f14, -, -, hσ⟩ := hJ
    obtain ⟨e0, e1, e2, e3, e4, -⟩ := hE'
    intro v hv
    subst hv
    cases v with
    | none => exact hs'.elim
    | some v1 =>
      obtain ⟨⟨i1, rfl, g1⟩, -⟩ := hs'
      exact k7 (x' 6) i1 f0 f1 f3 f4 f6 f7 f8 f9 f10 f11 f14 e0 e1 e2 e3 e4 g1
  · obtain ⟨f0, f1, -, f3, f4, -, f6, f7, f8, f9, f10, f11, -, -, f14, -, f16, -, -, hσ⟩ := hJ
    obtain ⟨e0, e1, e2, e3, e4, e5, -⟩ := hE'
    intro v hv
    subst hv
    cases v with
    | none => exact hs'.elim
    | some v1 =>
      obtain ⟨⟨i1, rfl, g1⟩, -⟩ := hs'
      exact k8 (x' 6) i1 f0 f1 f3 f4 f6 f7 f8 f9 f10 f11 f14 f16 e0 e1 e2 e3 e4 e5 g1
  · obtain ⟨f0, f1, -, f3, f4, -, f6, f7, f8, f9, f10, f11, -, -, f14, -, f16, f17, f18, -, -, hσ⟩ := hJ
    obtain ⟨e0, e1, e2, e3, e4, e5, e6, e7, -⟩ := hE'
    obtain ⟨t0, -⟩ := hT'
    intro v hv
    subst hv
    cases v with
    | none => exact hs'.elim
    | some v1 =>
      obtain ⟨⟨i1, rfl, g1⟩, -⟩ := hs'
      exact k9 (x' 6) (x' 7) (x' 8) i1 f0 f1 f3 f4 f6 f7 f8 f9 f10 f11 f14 f16 f17 f18 e0 e1 e2 e3 e4 e5 e6 e7 t0 g1
  · obtain ⟨f0, f1, -, f3, f4, -, f6, f7, f8, f9, f10, f11, -, -, f14, -, f16, f17, f18, -, -, hσ⟩ := hJ
    obtain ⟨e0, e1, e2, e3, e4, e5, e6, e7, -⟩ := hE'
    obtain ⟨t0, -⟩ := hT'
    obtain ⟨p0, p1, p2, p3, p4, p5, p6, -⟩ := hL'
    obtain rfl := sg_tn hs'
    exact k10 (x' 6) (x' 7) (x' 8) L' f0 f1 f3 f4 f6 f7 f8 f9 f10 f11 f14 f16 f17 f18 e0 e1 e2 e3 e4 e5 e6 e7 t0 p0 p1 p2 p3 p4 p5 p6
  · obtain ⟨f0, f1, -, f3, f4, -, f6, f7, f8, f9, f10, f11, -, -, -, hσ⟩ := hJ
    obtain ⟨e0, e1, e2, e3, e4, -⟩ := hE'
    intro v hv
    subst hv
    cases v with
    | none => exact hs'.elim
    | some v1 =>
      obtain ⟨⟨i1, rfl, g1⟩, -⟩ := hs'
      exact k11 (x' 6) i1 f0 f1 f3 f4 f6 f7 f8 f9 f10 f11 e0 e1 e2 e3 e4 g1
  · obtain ⟨f0, f1, -, f3, f4, -, f6, f7, f8, f9, f10, f11, -, -, f14, -, -, hσ⟩ := hJ
    obtain ⟨e0, e1, e2, e3, e4, -⟩ := hE'
    intro v hv
    subst hv
    cases v with
    | none => exact hs'.elim
    | some v1 =>
      obtain ⟨⟨i1, rfl, g1⟩, -⟩ := hs'
      exact k12 (x' 6) i1 f0 f1 f3 f4 f6 f7 f8 f9 f10 f11 f14 e0 e1 e2 e3 e4 g1
  · obtain ⟨f0, f1, -, f3, f4, -, f6, f7, f8, f9, f10, f11, -, -, f14, -, f16, -, -, hσ⟩ := hJ
    obtain ⟨e0, e1, e2, e3, e4, e5, -⟩ := hE'
    intro v hv
    subst hv
    cases v with
    | none => exact hs'.elim
    | some v1 =>
      obtain ⟨⟨i1, rfl, g1⟩, -⟩ := hs'
      exact k13 (x' 6) i1 f0 f1 f3 f4 f6 f7 f8 f9 f10 f11 f14 f16 e0 e1 e2 e3 e4 e5 g1
  · obtain ⟨f0, f1, -, f3, f4, -, f6, f7, f8, f9, f10, f11, -, -, f14, -, f16, f17, f18, -, -, hσ⟩ := hJ
    obtain ⟨e0, e1, e2, e3, e4, e5, e6, e7, -⟩ := hE'
    obtain ⟨t0, -⟩ := hT'
    intro v hv
    subst hv
    cases v with
    | none => exact hs'.elim
    | some v1 =>
      obtain ⟨⟨i1, rfl, g1⟩, -⟩ := hs'
      exact k14 (x' 6) (x' 7) (x' 8) i1 f0 f1 f3 f4 f6 f7 f8 f9 f10 f11 f14 f16 f17 f18 e0 e1 e2 e3 e4 e5 e6 e7 t0 g1
  · obtain ⟨f0, f1, -, f3, f4, -, f6, f7, f8, f9, f10, f11, -, -, f14, -, f16, f17, f18, -, -, hσ⟩ := hJ
    obtain ⟨e0, e1, e2, e3, e4, e5, e6, e7, -⟩ := hE'
    obtain ⟨t0, -⟩ := hT'
    obtain ⟨p0, p1, p2, p3, p4, p5, p6, -⟩ := hL'
    obtain rfl := sg_tn hs'
    exact k15 (x' 6) (x' 7) (x' 8) L' f0 f1 f3 f4 f6 f7 f8 f9 f10 f11 f14 f16 f17 f18 e0 e1 e2 e3 e4 e5 e6 e7 t0 p0 p1 p2 p3 p4 p5 p6
  · obtain ⟨f0, f1, -, f3, f4, -, f6, f7, f8, f9, f10, f11, -, -, -, hσ⟩ := hJ
    obtain ⟨e0, e1, e2, e3, e4, -⟩ := hE'
    intro v hv
    subst hv
    cases v with
    | none => exact hs'.elim
    | some v1 =>
      obtain ⟨⟨i1, rfl, g1⟩, -⟩ := hs'
      exact k16 (x' 6) i1 f0 f1 f3 f4 f6 f7 f8 f9 f10 f11 e0 e1 e2 e3 e4 g1
  · obtain ⟨f0, f1, -, f3, f4, -, f6, f7, f8, f9, f10, f11, -, -, f14, -, -, hσ⟩ := hJ
    obtain ⟨e0, e1, e2, e3, e4, -⟩ := hE'
    intro v hv
    subst hv
    cases v with
    | none => exact hs'.elim
    | some v1 =>
      obtain ⟨⟨i1, rfl, g1⟩, -⟩ := hs'
      exact k17 (x' 6) i1 f0 f1 f3 f4 f6 f7 f8 f9 f10 f11 f14 e0 e1 e2 e3 e4 g1
  · obtain ⟨f0, f1, -, f3, f4, -, f6, f7, f8, f9, f10, f11, -, -, f14, -, f16, -, -, hσ⟩ := hJ
    obtain ⟨e0, e1, e2, e3, e4, e5, -⟩ := hE'
    intro v hv
    subst hv
    cases v with
    | none => exact hs'.elim
    | some v1 =>
      obtain ⟨⟨i1, rfl, g1⟩, -⟩ := hs'
      exact k18 (x' 6) i1 f0 f1 f3 f4 f6 f7 f8 f9 f10 f11 f14 f16 e0 e1 e2 e3 e4 e5 g1
  · obtain ⟨f0, f1, -, f3, f4, -, f6, f7, f8, f9, f10, f11, -, -, f14, -, f16, f17, f18, -, -, hσ⟩ := hJ
    obtain ⟨e0, e1, e2, e3, e4, e5, e6, e7, -⟩ := hE'
    obtain ⟨t0, -⟩ := hT'
    intro v hv
    subst hv
    cases v with
    | none => exact hs'.elim
    | some v1 =>
      obtain ⟨⟨i1, rfl, g1⟩, -⟩ := hs'
      exact k19 (x' 6) (x' 7) (x' 8) i1 f0 f1 f3 f4 f6 f7 f8 f9 f10 f11 f14 f16 f17 f18 e0 e1 e2 e3 e4 e5 e6 e7 t0 g1
  · obtain ⟨f0, f1, -, f3, f4, -, f6, f7, f8, f9, f10, f11, -, -, f14, -, f16, f17, f18, -, -, hσ⟩ := hJ
    obtain ⟨e0, e1, e2, e3, e4, e5, e6, e7, -⟩ := hE'
    obtain ⟨t0, -⟩ := hT'
    obtain ⟨p0, p1, p2, p3, p4, p5, p6, -⟩ := hL'
    obtain rfl := sg_tn hs'
    exact k20 (x' 6) (x' 7) (x' 8) L' f0 f1 f3 f4 f6 f7 f8 f9 f10 f11 f14 f16 f17 f18 e0 e1 e2 e3 e4 e5 e6 e7 t0 p0 p1 p2 p3 p4 p5 p6
  · obtain ⟨f0, f1, -, f3, f4, -, f6, f7, f8, f9, f10, f11, -, -, -, hσ⟩ := hJ
    obtain ⟨e0, e1, e2, e3, e4, -⟩ := hE'
    intro v hv
    subst hv
    cases v with
    | none => exact hs'.elim
    | some v1 =>
      obtain ⟨⟨i1, rfl, g1⟩, -⟩ := hs'
      exact k21 (x' 6) i1 f0 f1 f3 f4 f6 f7 f8 f9 f10 f11 e0 e1 e2 e3 e4 g1
  · obtain ⟨f0, f1, -, f3, f4, -, f6, f7, f8, f9, f10, f11, -, -, f14, -, -, hσ⟩ := hJ
    obtain ⟨e0, e1, e2, e3, e4, -⟩ := hE'
    intro v hv
    subst hv
    cases v with
    | none => exact hs'.elim
    | some v1 =>
      obtain ⟨⟨i1, rfl, g1⟩, -⟩ := hs'
      exact k22 (x' 6) i1 f0 f1 f3 f4 f6 f7 f8 f9 f10 f11 f14 e0 e1 e2 e3 e4 g1
  · obtain ⟨f0, f1, -, f3, f4, -, f6, f7, f8, f9, f10, f11, -, -, f14, -, f16, -, -, hσ⟩ := hJ
    obtain ⟨e0, e1, e2, e3, e4, e5, -⟩ := hE'
    intro v hv
    subst hv
    cases v with
    | none => exact hs'.elim
    | some v1 =>
      obtain ⟨⟨i1, rfl, g1⟩, -⟩ := hs'
      exact k23 (x' 6) i1 f0 f1 f3 f4 f6 f7 f8 f9 f10 f11 f14 f16 e0 e1 e2 e3 e4 e5 g1
  · obtain ⟨f0, f1, -, f3, f4, -, f6, f7, f8, f9, f10, f11, -, -, f14, -, f16, f17, f18, -, -, hσ⟩ := hJ
    obtain ⟨e0, e1, e2, e3, e4, e5, e6, e7, -⟩ := hE'
    obtain ⟨t0, -⟩ := hT'
    intro v hv
    subst hv
    cases v with
    | none => exact hs'.elim
    | some v1 =>
      obtain ⟨⟨i1, rfl, g1⟩, -⟩ := hs'
      exact k24 (x' 6) (x' 7) (x' 8) i1 f0 f1 f3 f4 f6 f7 f8 f9 f10 f11 f14 f16 f17 f18 e0 e1 e2 e3 e4 e5 e6 e7 t0 g1
  · obtain ⟨f0, f1, -, f3, f4, -, f6, f7, f8, f9, f10, f11, -, -, f14, -, f16, f17, f18, -, -, hσ⟩ := hJ
    obtain ⟨e0, e1, e2, e3, e4, e5, e6, e7, -⟩ := hE'
    obtain ⟨t0, -⟩ := hT'
    obtain ⟨p0, p1, p2, p3, p4, p5, p6, -⟩ := hL'
    obtain rfl := sg_tn hs'
    exact k25 (x' 6) (x' 7) (x' 8) L' f0 f1 f3 f4 f6 f7 f8 f9 f10 f11 f14 f16 f17 f18 e0 e1 e2 e3 e4 e5 e6 e7 t0 p0 p1 p2 p3 p4 p5 p6
  · obtain ⟨f0, f1, -, f3, f4, -, f6, f7, f8, f9, f10, f11, -, -, -, hσ⟩ := hJ
    obtain ⟨e0, e1, e2, e3, e4, -⟩ := hE'
    intro v hv
    subst hv
    cases v with
    | none => exact hs'.elim
    | some v1 =>
      obtain ⟨⟨i1, rfl, g1⟩, -⟩ := hs'
      exact k26 (x' 6) i1 f0 f1 f3 f4 f6 f7 f8 f9 f10 f11 e0 e1 e2 e3 e4 g1
  · obtain ⟨f0, f1, -, f3, f4, -, f6, f7, f8, f9, hσ⟩ := hJ
    obtain ⟨e0, e1, e2, e3, -⟩ := hE'
    intro v hv
    subst hv
    cases v with
    | none => exact hs'.elim
    | some v1 =>
      obtain ⟨⟨i1, rfl, g1⟩, -⟩ := hs'
      exact k27 i1 f0 f1 f3 f4 f6 f7 f8 f9 e0 e1 e2 e3 g1
def sg_mh_x1_Z : List sg_z := [(95, [(0, .inr (.inl [0])), (1, .inl (false, (1, .ofNat 1, .ofNat 0))), (3, .inl (false, (2, .ofNat 1, .ofNat 0))), (4, .inl (false, (3, .ofNat 1, .ofNat 0))), (5, .inl (false, (4, .ofNat 1, .ofNat 0))), (7, .inl (false, (0, .ofNat 0, .ofNat 0))), (8, .inl (false, (0, .ofNat 0, .ofNat 0)))], [], [], [(1, [(.ofNat 0, .ofNat 3)]), (2, [(.ofNat 0, .ofNat 60)]), (3, [(.ofNat 1, .ofNat 20)]), (4, [(.ofNat 0, .ofNat 1000)])], [], [])]
set_option maxRecDepth 1000000 in
theorem sg_mh_x1_g : sg_go [] [94] 3000 129 88 0 5 [(0, [(.ofNat 0, .ofNat 0)]), (1, [(.ofNat 0, .ofNat 3)]), (2, [(.ofNat 0, .ofNat 60)]), (3, [(.ofNat 1, .ofNat 20)]), (4, [(.ofNat 0, .ofNat 1000)])] [] [] [] [(0, .inr (.inl [0])), (1, .inl (false, (1, .ofNat 1, .ofNat 0))), (3, .inl (false, (2, .ofNat 1, .ofNat 0))), (4, .inl (false, (3, .ofNat 1, .ofNat 0))), (5, .inl (false, (4, .ofNat 1, .ofNat 0)))] [] [] sg_mh_x1_Z = true := by decide +kernel
set_option maxRecDepth 100000 in
theorem sg_mh_x1 {Q : Option Value × am_S → Prop} {d : Nat} {S : am_S} {L : am_L} {x1 x2 x3 x4 : Int} (hd : 0 ≤ d) (hP : ax_P0 none S) (l0 : lc L 0 0) (l1 : li L 1 x1) (l3 : li L 3 x2) (l4 : li L 4 x3) (l5 : li L 5 x4) (b1 : (0 ≤ x1 ∧ x1 ≤ 3)) (b2 : (0 ≤ x2 ∧ x2 ≤ 60)) (b3 : (1 ≤ x3 ∧ x3 ≤ 20)) (b4 : (0 ≤ x4 ∧ x4 ≤ 1000))
    (k0 : ∀ (L' : am_L), (0 ≤ x1 ∧ x1 ≤ 3) → (0 ≤ x2 ∧ x2 ≤ 60) → (1 ≤ x3 ∧ x3 ≤ 20) → (0 ≤ x4 ∧ x4 ≤ 1000) → lc L' 0 0 → li L' 1 x1 → li L' 3 x2 → li L' 4 x3 → li L' 5 x4 → li L' 7 0 → li L' 8 0 → am_V none d 129 94 L' ([]) S Q) : am_V none d 129 88 L ([]) S Q := by
  refine sg_use sg_mh_x1_g hd hP (sg_xs [0, x1, x2, x3, x4]) ⟨⟨Int.le_refl 0, Int.le_refl 0⟩, b1, b2, b3, b4, trivial⟩ trivial trivial trivial ⟨l0, l1, l3, l4, l5, trivial⟩ trivial ?_
  intro z hz x' L' st' S' hx hP' hW hL' hs' hJ hE' hT' hD'
  have q1 : x' 1 = x1 := hx 1 (by decide)
  subst q1
  have q2 : x' 2 = x2 := hx 2 (by decide)
  subst q2
  have q3 : x' 3 = x3 := hx 3 (by decide)
  subst q3
  have q4 : x' 4 = x4 := hx 4 (by decide)
  subst q4
  have eS : S' = S := hW.1 rfl
  subst eS
  simp only [sg_mh_x1_Z, List.mem_cons, List.not_mem_nil, or_false] at hz
  rcases hz with rfl
  · have hσ := hJ
    obtain ⟨e0, e1, e2, e3, -⟩ := hE'
    obtain ⟨p0, p1, p2, p3, p4, p5, p6, -⟩ := hL'
    obtain rfl := sg_tn hs'
    exact k0 L' e0 e1 e2 e3 p0 p1 p2 p3 p4 p5 p6
def sg_mh_x2_Z : List sg_z := [(0, [], [.inl (false, (5, .ofNat 1, .ofNat 0))], [(2, 3, (6, .ofNat 1, .ofNat 0), (7, .ofNat 1, .ofNat 0), (0, .ofNat 0, .ofNat 0)), (0, 1, (0, .ofNat 0, .ofNat 0), (7, .ofNat 1, .ofNat 0), (0, .ofNat 0, .ofNat 0))], [(1, [(.ofNat 0, .ofNat 3)]), (2, [(.ofNat 0, .ofNat 60)]), (3, [(.ofNat 1, .ofNat 20)]), (4, [(.ofNat 0, .ofNat 1000)]), (5, [(.ofNat 0, .ofNat 64)]), (6, [(.ofNat 0, .ofNat 8)]), (7, [(.ofNat 0, .ofNat 8)])], [], []),
  (110, [(0, .inr (.inl [0])), (1, .inl (false, (1, .ofNat 1, .ofNat 0))), (3, .inl (false, (2, .ofNat 1, .ofNat 0))), (4, .inl (false, (3, .ofNat 1, .ofNat 0))), (5, .inl (false, (4, .ofNat 1, .ofNat 0))), (7, .inl (false, (5, .ofNat 1, .ofNat 0))), (8, .inl (false, (6, .ofNat 1, .ofNat 0))), (9, .inl (false, (0, .ofNat 0, .ofNat 0)))], [], [(2, 2, (6, .ofNat 1, .ofNat 0), (7, .ofNat 1, .ofNat 0), (0, .ofNat 0, .ofNat 0)), (0, 1, (0, .ofNat 0, .ofNat 0), (7, .ofNat 1, .ofNat 0), (0, .ofNat 0, .ofNat 0))], [(1, [(.ofNat 0, .ofNat 3)]), (2, [(.ofNat 0, .ofNat 60)]), (3, [(.ofNat 1, .ofNat 20)]), (4, [(.ofNat 0, .ofNat 1000)]), (5, [(.ofNat 0, .ofNat 64)]), (6, [(.ofNat 0, .ofNat 7)]), (7, [(.ofNat 1, .ofNat 8)])], [], [])]
set_option maxRecDepth 1000000 in
theorem sg_mh_x2_g : sg_go [] [109] 3000 129 94 0 7 [(0, [(.ofNat 0, .ofNat 0)]), (1, [(.ofNat 0, .ofNat 3)]), (2, [(.ofNat 0, .ofNat 60)]), (3, [(.ofNat 1, .ofNat 20)]), (4, [(.ofNat 0, .ofNat 1000)]), (5, [(.ofNat 0, .ofNat 64)]), (6, [(.ofNat 0, .ofNat 8)])] [] [] [] [(0, .inr (.inl [0])), (1, .inl (false, (1, .ofNat 1, .ofNat 0))), (3, .inl (false, (2, .ofNat 1, .ofNat 0))), (4, .inl (false, (3, .ofNat 1, .ofNat 0))), (5, .inl (false, (4, .ofNat 1, .ofNat 0))), (7, .inl (false, (5, .ofNat 1, .ofNat 0))), (8, .inl (false, (6, .ofNat 1, .ofNat 0)))] [] [] sg_mh_x2_Z = true := by decide +kernel
set_option maxRecDepth 100000 in
theorem sg_mh_x2 {Q : Option Value × am_S → Prop} {d : Nat} {S : am_S} {L : am_L} {x1 x2 x3 x4 x5 x6 : Int} (hd : 0 ≤ d) (hP : ax_P0 none S) (l0 : lc L 0 0) (l1 : li L 1 x1) (l3 : li L 3 x2) (l4 : li L 4 x3) (l5 : li L 5 x4) (l7 : li L 7 x5) (l8 : li L 8 x6) (b1 : (0 ≤ x1 ∧ x1 ≤ 3)) (b2 : (0 ≤ x2 ∧ x2 ≤ 60)) (b3 : (1 ≤ x3 ∧ x3 ≤ 20)) (b4 : (0 ≤ x4 ∧ x4 ≤ 1000)) (b5 : (0 ≤ x5 ∧ x5 ≤ 64)) (b6 : (0 ≤ x6 ∧ x6 ≤ 8))
    (k0 : ∀ (x7 : Int) (i1 : Int32), rd S 1 0 = x7 → x7 ≤ x6 → (0 ≤ x1 ∧ x1 ≤ 3) → (0 ≤ x2 ∧ x2 ≤ 60) → (1 ≤ x3 ∧ x3 ≤ 20) → (0 ≤ x4 ∧ x4 ≤ 1000) → (0 ≤ x5 ∧ x5 ≤ 64) → (0 ≤ x6 ∧ x6 ≤ 8) → (0 ≤ x7 ∧ x7 ≤ 8) → i1.toInt = x5 → Q (some (.int i1), S))
    (k1 : ∀ (x7 : Int) (L' : am_L), rd S 1 0 = x7 → x6 < x7 → (0 ≤ x1 ∧ x1 ≤ 3) → (0 ≤ x2 ∧ x2 ≤ 60) → (1 ≤ x3 ∧ x3 ≤ 20) → (0 ≤ x4 ∧ x4 ≤ 1000) → (0 ≤ x5 ∧ x5 ≤ 64) → (0 ≤ x6 ∧ x6 ≤ 7) → (1 ≤ x7 ∧ x7 ≤ 8) → lc L' 0 0 → li L' 1 x1 → li L' 3 x2 → li L' 4 x3 → li L' 5 x4 → li L' 7 x5 → li L' 8 x6 → li L' 9 0 → am_V none d 129 109 L' ([]) S Q) : am_V none d 129 94 L ([]) S Q := by
  refine sg_use sg_mh_x2_g hd hP (sg_xs [0, x1, x2, x3, x4, x5, x6]) ⟨⟨Int.le_refl 0, Int.le_refl 0⟩, b1, b2, b3, b4, b5, b6, trivial⟩ trivial trivial trivial ⟨l0, l1, l3, l4, l5, l7, l8, trivial⟩ trivial ?_
  intro z hz x' L' st' S' hx hP' hW hL' hs' hJ hE' hT' hD'
  have q1 : x' 1 = x1 := hx 1 (by decide)
  subst q1
  have q2 : x' 2 = x2 := hx 2 (by decide)
  subst q2
  have q3 : x' 3 = x3 := hx 3 (by decide)
  subst q3
  have q4 : x' 4 = x4 := hx 4 (by decide)
  subst q4
  have q5 : x' 5 = x5 := hx 5 (by decide)
  subst q5
  have q6 : x' 6 = x6 := hx 6 (by decide)
  subst q6
  have eS : S' = S := hW.1 rfl
  subst eS
  simp only [sg_mh_x2_Z, List.mem_cons, List.not_mem_nil, or_false] at hz
  rcases hz with rfl | rfl
  · obtain ⟨f0, f1, hσ⟩ := hJ
    obtain ⟨e0, e1, e2, e3, e4, e5, e6, -⟩ := hE'
    intro v hv
    subst hv
    cases v with
    | none => exact hs'.elim
    | some v1 =>
      obtain ⟨⟨i1, rfl, g1⟩, -⟩ := hs'
      exact k0 (x' 7) i1 f0 f1 e0 e1 e2 e3 e4 e5 e6 g1
  · obtain ⟨f0, f1, hσ⟩ := hJ
    obtain ⟨e0, e1, e2, e3, e4, e5, e6, -⟩ := hE'
    obtain ⟨p0, p1, p2, p3, p4, p5, p6, p7, -⟩ := hL'
    obtain rfl := sg_tn hs'
    exact k1 (x' 7) L' f0 f1 e0 e1 e2 e3 e4 e5 e6 p0 p1 p2 p3 p4 p5 p6 p7
def sg_mh_x3_Z : List sg_z := [(95, [(0, .inr (.inl [0])), (1, .inl (false, (1, .ofNat 1, .ofNat 0))), (3, .inl (false, (2, .ofNat 1, .ofNat 0))), (4, .inl (false, (3, .ofNat 1, .ofNat 0))), (5, .inl (false, (4, .ofNat 1, .ofNat 0))), (7, .inl (false, (5, .ofNat 1, .ofNat 0))), (8, .inl (false, (6, .ofNat 1, .ofNat 1))), (9, .inl (false, (7, .ofNat 1, .ofNat 0)))], [], [(2, 3, (7, .ofNat 1, .ofNat 0), (8, .ofNat 1, .ofNat 0), (0, .ofNat 0, .ofNat 0)), (0, 1, (0, .ofNat 0, .ofNat 0), (8, .ofNat 1, .ofNat 0), (0, .ofNat 0, .ofNat 0))], [(1, [(.ofNat 0, .ofNat 3)]), (2, [(.ofNat 0, .ofNat 60)]), (3, [(.ofNat 1, .ofNat 20)]), (4, [(.ofNat 0, .ofNat 1000)]), (5, [(.ofNat 0, .ofNat 64)]), (6, [(.ofNat 0, .ofNat 7)]), (7, [(.ofNat 0, .ofNat 8)]), (8, [(.ofNat 0, .ofNat 8)])], [], []),
  (110, [(0, .inr (.inl [0])), (1, .inl (false, (1, .ofNat 1, .ofNat 0))), (3, .inl (false, (2, .ofNat 1, .ofNat 0))), (4, .inl (false, (3, .ofNat 1, .ofNat 0))), (5, .inl (false, (4, .ofNat 1, .ofNat 0))), (7, .inl (false, (5, .ofNat 1, .ofNat 0))), (8, .inl (false, (6, .ofNat 1, .ofNat 0))), (9, .inl (false, (7, .ofNat 1, .ofNat 1)))], [], [(2, 0, (0, .ofNat 0, .ofNat 0), (0, .ofNat 0, .ofNat 0), (0, .ofNat 0, .ofNat 0)), (2, 0, (13, .ofNat 1, .ofNat 0), (9, .ofNat 1, .ofNat 0), (0, .ofNat 0, .ofNat 0)), (0, 3, (6, .ofNat 1, .ofNat 0), (13, .ofNat 1, .ofNat 0), (0, .ofNat 0, .ofNat 0)), (2, 3, (12, .ofNat 1, .ofNat 0), (0, .ofNat 0, .ofNat 0), (0, .ofNat 0, .ofNat 0)), (0, 4, (6, .ofNat 1, .ofNat 0), (11, .ofNat 1, .ofNat 0), (0, .ofNat 0, .ofNat 0)), (0, 4, (7, .ofNat 1, .ofNat 0), (10, .ofNat 1, .ofNat 0), (0, .ofNat 0, .ofNat 0)), (0, 3, (7, .ofNat 1, .ofNat 0), (9, .ofNat 1, .ofNat 0), (0, .ofNat 0, .ofNat 0)), (2, 2, (7, .ofNat 1, .ofNat 0), (8, .ofNat 1, .ofNat 0), (0, .ofNat 0, .ofNat 0)), (0, 1, (0, .ofNat 0, .ofNat 0), (8, .ofNat 1, .ofNat 0), (0, .ofNat 0, .ofNat 0))], [(1, [(.ofNat 0, .ofNat 3)]), (2, [(.ofNat 0, .ofNat 60)]), (3, [(.ofNat 1, .ofNat 20)]), (4, [(.ofNat 0, .ofNat 1000)]), (5, [(.ofNat 0, .ofNat 64)]), (6, [(.ofNat 0, .ofNat 7)]), (7, [(.ofNat 0, .ofNat 7)]), (8, [(.ofNat 1, .ofNat 8)]), (9, [(.ofNat 0, .ofNat 1)]), (10, [(.ofNat 0, .ofNat 9)]), (11, [(.ofNat 0, .ofNat 9)]), (12, [(.ofNat 0, .ofNat 9)]), (13, [(.ofNat 0, .ofNat 1)])], [((11, .ofNat 1, .ofNat 0), (10, .negSucc 0, .ofNat 0), (12, .ofNat 1, .ofNat 0))], []),
  (110, [(0, .inr (.inl [0])), (1, .inl (false, (1, .ofNat 1, .ofNat 0))), (3, .inl (false, (2, .ofNat 1, .ofNat 0))), (4, .inl (false, (3, .ofNat 1, .ofNat 0))), (5, .inl (false, (4, .ofNat 1, .ofNat 0))), (7, .inl (false, (5, .ofNat 1, .ofNat 0))), (8, .inl (false, (6, .ofNat 1, .ofNat 0))), (9, .inl (false, (7, .ofNat 1, .ofNat 1)))], [], [(2, 0, (0, .ofNat 0, .ofNat 0), (0, .ofNat 0, .ofNat 0), (0, .ofNat 0, .ofNat 0)), (2, 5, (14, .ofNat 1, .ofNat 0), (0, .ofNat 0, .ofNat 0), (0, .ofNat 0, .ofNat 0)), (0, 4, (6, .ofNat 1, .ofNat 0), (11, .ofNat 1, .ofNat 0), (0, .ofNat 0, .ofNat 0)), (2, 0, (12, .ofNat 1, .ofNat 0), (0, .ofNat 0, .ofNat 0), (0, .ofNat 0, .ofNat 0)), (2, 1, (13, .ofNat 1, .ofNat 0), (9, .ofNat 1, .ofNat 0), (0, .ofNat 0, .ofNat 0)), (0, 3, (6, .ofNat 1, .ofNat 0), (13, .ofNat 1, .ofNat 0), (0, .ofNat 0, .ofNat 0)), (2, 3, (12, .ofNat 1, .ofNat 0), (0, .ofNat 0, .ofNat 0), (0, .ofNat 0, .ofNat 0)), (0, 4, (6, .ofNat 1, .ofNat 0), (11, .ofNat 1, .ofNat 0), (0, .ofNat 0, .ofNat 0)), (0, 4, (7, .ofNat 1, .ofNat 0), (10, .ofNat 1, .ofNat 0), (0, .ofNat 0, .ofNat 0)), (0, 3, (7, .ofNat 1, .ofNat 0), (9, .ofNat 1, .ofNat 0), (0, .ofNat 0, .ofNat 0)), (2, 2, (7, .ofNat 1, .ofNat 0), (8, .ofNat 1, .ofNat 0), (0, .ofNat 0, .ofNat 0)), (0, 1, (0, .ofNat 0, .ofNat 0), (8, .ofNat 1, .ofNat 0), (0, .ofNat 0, .ofNat 0))], [(1, [(.ofNat 0, .ofNat 3)]), (2, [(.ofNat 0, .ofNat 60)]), (3, [(.ofNat 1, .ofNat 20)]), (4, [(.ofNat 0, .ofNat 1000)]), (5, [(.ofNat 0, .ofNat 64)]), (6, [(.ofNat 0, .ofNat 7)]), (7, [(.ofNat 0, .ofNat 7)]), (8, [(.ofNat 1, .ofNat 8)]), (9, [(.ofNat 0, .ofNat 1)]), (10, [(.ofNat 0, .ofNat 9)]), (11, [(.ofNat 0, .ofNat 9)]), (12, [(.ofNat 0, .ofNat 0)]), (13, [(.ofNat 0, .ofNat 1)]), (14, [(.ofNat 0, .ofNat 0)])], [((11, .ofNat 1, .ofNat 0), (10, .ofNat 1, .ofNat 0), (14, .ofNat 1, .ofNat 0)), ((11, .ofNat 1, .ofNat 0), (10, .negSucc 0, .ofNat 0), (12, .ofNat 1, .ofNat 0))], []),
  (148, [(0, .inr (.inl [0])), (1, .inl (false, (1, .ofNat 1, .ofNat 0))), (3, .inl (false, (2, .ofNat 1, .ofNat 0))), (4, .inl (false, (3, .ofNat 1, .ofNat 0))), (5, .inl (false, (4, .ofNat 1, .ofNat 0))), (7, .inl (false, (5, .ofNat 1, .ofNat 0))), (8, .inl (false, (6, .ofNat 1, .ofNat 0))), (9, .inl (false, (7, .ofNat 1, .ofNat 0)))], [.inl (false, (7, .ofNat 1, .ofNat 0)), .inl (false, (6, .ofNat 1, .ofNat 0)), .inr (.inl [1]), .inr (.inl [64])], [(2, 1, (0, .ofNat 0, .ofNat 1), (0, .ofNat 0, .ofNat 0), (0, .ofNat 0, .ofNat 0)), (2, 4, (14, .ofNat 1, .ofNat 0), (0, .ofNat 0, .ofNat 0), (0, .ofNat 0, .ofNat 0)), (0, 4, (6, .ofNat 1, .ofNat 0), (11, .ofNat 1, .ofNat 0), (0, .ofNat 0, .ofNat 0)), (2, 0, (12, .ofNat 1, .ofNat 0), (0, .ofNat 0, .ofNat 0), (0, .ofNat 0, .ofNat 0)), (2, 1, (13, .ofNat 1, .ofNat 0), (9, .ofNat 1, .ofNat 0), (0, .ofNat 0, .ofNat 0)), (0, 3, (6, .ofNat 1, .ofNat 0), (13, .ofNat 1, .ofNat 0), (0, .ofNat 0, .ofNat 0)), (2, 3, (12, .ofNat 1, .ofNat 0), (0, .ofNat 0, .ofNat 0), (0, .ofNat 0, .ofNat 0)), (0, 4, (6, .ofNat 1, .ofNat 0), (11, .ofNat 1, .ofNat 0), (0, .ofNat 0, .ofNat 0)), (0, 4, (7, .ofNat 1, .ofNat 0), (10, .ofNat 1, .ofNat 0), (0, .ofNat 0, .ofNat 0)), (0, 3, (7, .ofNat 1, .ofNat 0), (9, .ofNat 1, .ofNat 0), (0, .ofNat 0, .ofNat 0)), (2, 2, (7, .ofNat 1, .ofNat 0), (8, .ofNat 1, .ofNat 0), (0, .ofNat 0, .ofNat 0)), (0, 1, (0, .ofNat 0, .ofNat 0), (8, .ofNat 1, .ofNat 0), (0, .ofNat 0, .ofNat 0))], [(1, [(.ofNat 0, .ofNat 3)]), (2, [(.ofNat 0, .ofNat 60)]), (3, [(.ofNat 1, .ofNat 20)]), (4, [(.ofNat 0, .ofNat 1000)]), (5, [(.ofNat 0, .ofNat 64)]), (6, [(.ofNat 0, .ofNat 7)]), (7, [(.ofNat 0, .ofNat 7)]), (8, [(.ofNat 1, .ofNat 8)]), (9, [(.ofNat 0, .ofNat 1)]), (10, [(.ofNat 0, .ofNat 9)]), (11, [(.ofNat 0, .ofNat 9)]), (12, [(.ofNat 0, .ofNat 0)]), (13, [(.ofNat 0, .ofNat 1)]), (14, [(.ofNat 1, .ofNat 18)])], [((11, .ofNat 1, .ofNat 0), (10, .ofNat 1, .ofNat 0), (14, .ofNat 1, .ofNat 0)), ((11, .ofNat 1, .ofNat 0), (10, .negSucc 0, .ofNat 0), (12, .ofNat 1, .ofNat 0))], []),
  (110, [(0, .inr (.inl [0])), (1, .inl (false, (1, .ofNat 1, .ofNat 0))), (3, .inl (false, (2, .ofNat 1, .ofNat 0))), (4, .inl (false, (3, .ofNat 1, .ofNat 0))), (5, .inl (false, (4, .ofNat 1, .ofNat 0))), (7, .inl (false, (5, .ofNat 1, .ofNat 0))), (8, .inl (false, (6, .ofNat 1, .ofNat 0))), (9, .inl (false, (7, .ofNat 1, .ofNat 1)))], [], [(2, 0, (0, .ofNat 0, .ofNat 0), (0, .ofNat 0, .ofNat 0), (0, .ofNat 0, .ofNat 0)), (2, 1, (12, .ofNat 1, .ofNat 0), (0, .ofNat 0, .ofNat 2), (0, .ofNat 0, .ofNat 0)), (2, 1, (12, .ofNat 1, .ofNat 0), (0, .ofNat 0, .ofNat 0), (0, .ofNat 0, .ofNat 0)), (2, 1, (13, .ofNat 1, .ofNat 0), (9, .ofNat 1, .ofNat 0), (0, .ofNat 0, .ofNat 0)), (0, 3, (6, .ofNat 1, .ofNat 0), (13, .ofNat 1, .ofNat 0), (0, .ofNat 0, .ofNat 0)), (2, 3, (12, .ofNat 1, .ofNat 0), (0, .ofNat 0, .ofNat 0), (0, .ofNat 0, .ofNat 0)), (0, 4, (6, .ofNat 1, .ofNat 0), (11, .ofNat 1, .ofNat 0), (0, .ofNat 0, .ofNat 0)), (0, 4, (7, .ofNat 1, .ofNat 0), (10, .ofNat 1, .ofNat 0), (0, .ofNat 0, .ofNat 0)), (0, 3, (7, .ofNat 1, .ofNat 0), (9, .ofNat 1, .ofNat 0), (0, .ofNat 0, .ofNat 0)), (2, 2, (7, .ofNat 1, .ofNat 0), (8, .ofNat 1, .ofNat 0), (0, .ofNat 0, .ofNat 0)), (0, 1, (0, .ofNat 0, .ofNat 0), (8, .ofNat 1, .ofNat 0), (0, .ofNat 0, .ofNat 0))], [(1, [(.ofNat 0, .ofNat 3)]), (2, [(.ofNat 0, .ofNat 60)]), (3, [(.ofNat 1, .ofNat 20)]), (4, [(.ofNat 0, .ofNat 1000)]), (5, [(.ofNat 0, .ofNat 64)]), (6, [(.ofNat 0, .ofNat 7)]), (7, [(.ofNat 0, .ofNat 7)]), (8, [(.ofNat 1, .ofNat 8)]), (9, [(.ofNat 0, .ofNat 1)]), (10, [(.ofNat 0, .ofNat 9)]), (11, [(.ofNat 0, .ofNat 9)]), (12, [(.ofNat 1, .ofNat 1), (.ofNat 3, .ofNat 9)]), (13, [(.ofNat 0, .ofNat 1)])], [((11, .ofNat 1, .ofNat 0), (10, .negSucc 0, .ofNat 0), (12, .ofNat 1, .ofNat 0))], []),
  (110, [(0, .inr (.inl [0])), (1, .inl (false, (1, .ofNat 1, .ofNat 0))), (3, .inl (false, (2, .ofNat 1, .ofNat 0))), (4, .inl (false, (3, .ofNat 1, .ofNat 0))), (5, .inl (false, (4, .ofNat 1, .ofNat 0))), (7, .inl (false, (5, .ofNat 1, .ofNat 0))), (8, .inl (false, (6, .ofNat 1, .ofNat 0))), (9, .inl (false, (7, .ofNat 1, .ofNat 1)))], [], [(2, 0, (0, .ofNat 0, .ofNat 0), (0, .ofNat 0, .ofNat 0), (0, .ofNat 0, .ofNat 0)), (2, 5, (14, .ofNat 1, .ofNat 0), (0, .ofNat 0, .ofNat 0), (0, .ofNat 0, .ofNat 0)), (0, 4, (6, .ofNat 1, .ofNat 0), (11, .ofNat 1, .ofNat 0), (0, .ofNat 0, .ofNat 0)), (2, 0, (12, .ofNat 1, .ofNat 0), (0, .ofNat 0, .ofNat 2), (0, .ofNat 0, .ofNat 0)), (2, 1, (12, .ofNat 1, .ofNat 0), (0, .ofNat 0, .ofNat 0), (0, .ofNat 0, .ofNat 0)), (2, 1, (13, .ofNat 1, .ofNat 0), (9, .ofNat 1, .ofNat 0), (0, .ofNat 0, .ofNat 0)), (0, 3, (6, .ofNat 1, .ofNat 0), (13, .ofNat 1, .ofNat 0), (0, .ofNat 0, .ofNat 0)), (2, 3, (12, .ofNat 1, .ofNat 0), (0, .ofNat 0, .ofNat 0), (0, .ofNat 0, .ofNat 0)), (0, 4, (6, .ofNat 1, .ofNat 0), (11, .ofNat 1, .ofNat 0), (0, .ofNat 0, .ofNat 0)), (0, 4, (7, .ofNat 1, .ofNat 0), (10, .ofNat 1, .ofNat 0), (0, .ofNat 0, .ofNat 0)), (0, 3, (7, .ofNat 1, .ofNat 0), (9, .ofNat 1, .ofNat 0), (0, .ofNat 0, .ofNat 0)), (2, 2, (7, .ofNat 1, .ofNat 0), (8, .ofNat 1, .ofNat 0), (0, .ofNat 0, .ofNat 0)), (0, 1, (0, .ofNat 0, .ofNat 0), (8, .ofNat 1, .ofNat 0), (0, .ofNat 0, .ofNat 0))], [(1, [(.ofNat 0, .ofNat 3)]), (2, [(.ofNat 0, .ofNat 60)]), (3, [(.ofNat 1, .ofNat 20)]), (4, [(.ofNat 0, .ofNat 1000)]), (5, [(.ofNat 0, .ofNat 64)]), (6, [(.ofNat 0, .ofNat 7)]), (7, [(.ofNat 0, .ofNat 7)]), (8, [(.ofNat 1, .ofNat 8)]), (9, [(.ofNat 0, .ofNat 1)]), (10, [(.ofNat 0, .ofNat 9)]), (11, [(.ofNat 0, .ofNat 9)]), (12, [(.ofNat 2, .ofNat 2)]), (13, [(.ofNat 0, .ofNat 1)]), (14, [(.ofNat 0, .ofNat 0)])], [((11, .ofNat 1, .ofNat 0), (10, .ofNat 1, .ofNat 0), (14, .ofNat 1, .ofNat 0)), ((11, .ofNat 1, .ofNat 0), (10, .negSucc 0, .ofNat 0), (12, .ofNat 1, .ofNat 0))], []),
  (148, [(0, .inr (.inl [0])), (1, .inl (false, (1, .ofNat 1, .ofNat 0))), (3, .inl (false, (2, .ofNat 1, .ofNat 0))), (4, .inl (false, (3, .ofNat 1, .ofNat 0))), (5, .inl (false, (4, .ofNat 1, .ofNat 0))), (7, .inl (false, (5, .ofNat 1, .ofNat 0))), (8, .inl (false, (6, .ofNat 1, .ofNat 0))), (9, .inl (false, (7, .ofNat 1, .ofNat 0)))], [.inl (false, (7, .ofNat 1, .ofNat 0)), .inl (false, (6, .ofNat 1, .ofNat 0)), .inr (.inl [1]), .inr (.inl [64])], [(2, 1, (0, .ofNat 0, .ofNat 1), (0, .ofNat 0, .ofNat 0), (0, .ofNat 0, .ofNat 0)), (2, 4, (14, .ofNat 1, .ofNat 0), (0, .ofNat 0, .ofNat 0), (0, .ofNat 0, .ofNat 0)), (0, 4, (6, .ofNat 1, .ofNat 0), (11, .ofNat 1, .ofNat 0), (0, .ofNat 0, .ofNat 0)), (2, 0, (12, .ofNat 1, .ofNat 0), (0, .ofNat 0, .ofNat 2), (0, .ofNat 0, .ofNat 0)), (2, 1, (12, .ofNat 1, .ofNat 0), (0, .ofNat 0, .ofNat 0), (0, .ofNat 0, .ofNat 0)), (2, 1, (13, .ofNat 1, .ofNat 0), (9, .ofNat 1, .ofNat 0), (0, .ofNat 0, .ofNat 0)), (0, 3, (6, .ofNat 1, .ofNat 0), (13, .ofNat 1, .ofNat 0), (0, .ofNat 0, .ofNat 0)), (2, 3, (12, .ofNat 1, .ofNat 0), (0, .ofNat 0, .ofNat 0), (0, .ofNat 0, .ofNat 0)), (0, 4, (6, .ofNat 1, .ofNat 0), (11, .ofNat 1, .ofNat 0), (0, .ofNat 0, .ofNat 0)), (0, 4, (7, .ofNat 1, .ofNat 0), (10, .ofNat 1, .ofNat 0), (0, .ofNat 0, .ofNat 0)), (0, 3, (7, .ofNat 1, .ofNat 0), (9, .ofNat 1, .ofNat 0), (0, .ofNat 0, .ofNat 0)), (2, 2, (7, .ofNat 1, .ofNat 0), (8, .ofNat 1, .ofNat 0), (0, .ofNat 0, .ofNat 0)), (0, 1, (0, .ofNat 0, .ofNat 0), (8, .ofNat 1, .ofNat 0), (0, .ofNat 0, .ofNat 0))], [(1, [(.ofNat 0, .ofNat 3)]), (2, [(.ofNat 0, .ofNat 60)]), (3, [(.ofNat 1, .ofNat 20)]), (4, [(.ofNat 0, .ofNat 1000)]), (5, [(.ofNat 0, .ofNat 64)]), (6, [(.ofNat 0, .ofNat 7)]), (7, [(.ofNat 0, .ofNat 7)]), (8, [(.ofNat 1, .ofNat 8)]), (9, [(.ofNat 0, .ofNat 1)]), (10, [(.ofNat 0, .ofNat 9)]), (11, [(.ofNat 0, .ofNat 9)]), (12, [(.ofNat 2, .ofNat 2)]), (13, [(.ofNat 0, .ofNat 1)]), (14, [(.ofNat 1, .ofNat 18)])], [((11, .ofNat 1, .ofNat 0), (10, .ofNat 1, .ofNat 0), (14, .ofNat 1, .ofNat 0)), ((11, .ofNat 1, .ofNat 0), (10, .negSucc 0, .ofNat 0), (12, .ofNat 1, .ofNat 0))], []),
  (110, [(0, .inr (.inl [0])), (1, .inl (false, (1, .ofNat 1, .ofNat 0))), (3, .inl (false, (2, .ofNat 1, .ofNat 0))), (4, .inl (false, (3, .ofNat 1, .ofNat 0))), (5, .inl (false, (4, .ofNat 1, .ofNat 0))), (7, .inl (false, (5, .ofNat 1, .ofNat 0))), (8, .inl (false, (6, .ofNat 1, .ofNat 0))), (9, .inl (false, (7, .ofNat 1, .ofNat 1)))], [], [(2, 0, (0, .ofNat 0, .ofNat 0), (0, .ofNat 0, .ofNat 0), (0, .ofNat 0, .ofNat 0)), (2, 0, (13, .ofNat 1, .ofNat 0), (9, .ofNat 1, .ofNat 0), (0, .ofNat 0, .ofNat 0)), (0, 3, (6, .ofNat 1, .ofNat 0), (13, .ofNat 1, .ofNat 0), (0, .ofNat 0, .ofNat 0)), (2, 2, (12, .ofNat 1, .ofNat 0), (0, .ofNat 0, .ofNat 0), (0, .ofNat 0, .ofNat 0)), (0, 4, (6, .ofNat 1, .ofNat 0), (11, .ofNat 1, .ofNat 0), (0, .ofNat 0, .ofNat 0)), (0, 4, (7, .ofNat 1, .ofNat 0), (10, .ofNat 1, .ofNat 0), (0, .ofNat 0, .ofNat 0)), (0, 3, (7, .ofNat 1, .ofNat 0), (9, .ofNat 1, .ofNat 0), (0, .ofNat 0, .ofNat 0)), (2, 2, (7, .ofNat 1, .ofNat 0), (8, .ofNat 1, .ofNat 0), (0, .ofNat 0, .ofNat 0)), (0, 1, (0, .ofNat 0, .ofNat 0), (8, .ofNat 1, .ofNat 0), (0, .ofNat 0, .ofNat 0))], [(1, [(.ofNat 0, .ofNat 3)]), (2, [(.ofNat 0, .ofNat 60)]), (3, [(.ofNat 1, .ofNat 20)]), (4, [(.ofNat 0, .ofNat 1000)]), (5, [(.ofNat 0, .ofNat 64)]), (6, [(.ofNat 0, .ofNat 7)]), (7, [(.ofNat 0, .ofNat 7)]), (8, [(.ofNat 1, .ofNat 8)]), (9, [(.ofNat 0, .ofNat 1)]), (10, [(.ofNat 0, .ofNat 9)]), (11, [(.ofNat 0, .ofNat 9)]), (12, [(.negSucc 8, .negSucc 0)]), (13, [(.ofNat 0, .ofNat 1)])], [((11, .ofNat 1, .ofNat 0), (10, .negSucc 0, .ofNat 0), (12, .ofNat 1, .ofNat 0))], []),
  (110, [(0, .inr (.inl [0])), (1, .inl (false, (1, .ofNat 1, .ofNat 0))), (3, .inl (false, (2, .ofNat 1, .ofNat 0))), (4, .inl (false, (3, .ofNat 1, .ofNat 0))), (5, .inl (false, (4, .ofNat 1, .ofNat 0))), (7, .inl (false, (5, .ofNat 1, .ofNat 0))), (8, .inl (false, (6, .ofNat 1, .ofNat 0))), (9, .inl (false, (7, .ofNat 1, .ofNat 1)))], [], [(2, 0, (0, .ofNat 0, .ofNat 0), (0, .ofNat 0, .ofNat 0), (0, .ofNat 0, .ofNat 0)), (2, 1, (12, .negSucc 0, .ofNat 0), (0, .ofNat 0, .ofNat 2), (0, .ofNat 0, .ofNat 0)), (2, 1, (12, .negSucc 0, .ofNat 0), (0, .ofNat 0, .ofNat 0), (0, .ofNat 0, .ofNat 0)), (2, 1, (13, .ofNat 1, .ofNat 0), (9, .ofNat 1, .ofNat 0), (0, .ofNat 0, .ofNat 0)), (0, 3, (6, .ofNat 1, .ofNat 0), (13, .ofNat 1, .ofNat 0), (0, .ofNat 0, .ofNat 0)), (2, 2, (12, .ofNat 1, .ofNat 0), (0, .ofNat 0, .ofNat 0), (0, .ofNat 0, .ofNat 0)), (0, 4, (6, .ofNat 1, .ofNat 0), (11, .ofNat 1, .ofNat 0), (0, .ofNat 0, .ofNat 0)), (0, 4, (7, .ofNat 1, .ofNat 0), (10, .ofNat 1, .ofNat 0), (0, .ofNat 0, .ofNat 0)), (0, 3, (7, .ofNat 1, .ofNat 0), (9, .ofNat 1, .ofNat 0), (0, .ofNat 0, .ofNat 0)), (2, 2, (7, .ofNat 1, .ofNat 0), (8, .ofNat 1, .ofNat 0), (0, .ofNat 0, .ofNat 0)), (0, 1, (0, .ofNat 0, .ofNat 0), (8, .ofNat 1, .ofNat 0), (0, .ofNat 0, .ofNat 0))], [(1, [(.ofNat 0, .ofNat 3)]), (2, [(.ofNat 0, .ofNat 60)]), (3, [(.ofNat 1, .ofNat 20)]), (4, [(.ofNat 0, .ofNat 1000)]), (5, [(.ofNat 0, .ofNat 64)]), (6, [(.ofNat 0, .ofNat 7)]), (7, [(.ofNat 0, .ofNat 7)]), (8, [(.ofNat 1, .ofNat 8)]), (9, [(.ofNat 0, .ofNat 1)]), (10, [(.ofNat 0, .ofNat 9)]), (11, [(.ofNat 0, .ofNat 9)]), (12, [(.negSucc 8, .negSucc 2), (.negSucc 0, .negSucc 0)]), (13, [(.ofNat 0, .ofNat 1)])], [((11, .ofNat 1, .ofNat 0), (10, .negSucc 0, .ofNat 0), (12, .ofNat 1, .ofNat 0))], []),
  (110, [(0, .inr (.inl [0])), (1, .inl (false, (1, .ofNat 1, .ofNat 0))), (3, .inl (false, (2, .ofNat 1, .ofNat 0))), (4, .inl (false, (3, .ofNat 1, .ofNat 0))), (5, .inl (false, (4, .ofNat 1, .ofNat 0))), (7, .inl (false, (5, .ofNat 1, .ofNat 0))), (8, .inl (false, (6, .ofNat 1, .ofNat 0))), (9, .inl (false, (7, .ofNat 1, .ofNat 1)))], [], [(2, 0, (0, .ofNat 0, .ofNat 0), (0, .ofNat 0, .ofNat 0), (0, .ofNat 0, .ofNat 0)), (2, 5, (14, .ofNat 1, .ofNat 0), (0, .ofNat 0, .ofNat 0), (0, .ofNat 0, .ofNat 0)), (0, 4, (6, .ofNat 1, .ofNat 0), (11, .ofNat 1, .ofNat 0), (0, .ofNat 0, .ofNat 0)), (2, 0, (12, .negSucc 0, .ofNat 0), (0, .ofNat 0, .ofNat 2), (0, .ofNat 0, .ofNat 0)), (2, 1, (12, .negSucc 0, .ofNat 0), (0, .ofNat 0, .ofNat 0), (0, .ofNat 0, .ofNat 0)), (2, 1, (13, .ofNat 1, .ofNat 0), (9, .ofNat 1, .ofNat 0), (0, .ofNat 0, .ofNat 0)), (0, 3, (6, .ofNat 1, .ofNat 0), (13, .ofNat 1, .ofNat 0), (0, .ofNat 0, .ofNat 0)), (2, 2, (12, .ofNat 1, .ofNat 0), (0, .ofNat 0, .ofNat 0), (0, .ofNat 0, .ofNat 0)), (0, 4, (6, .ofNat 1, .ofNat 0), (11, .ofNat 1, .ofNat 0), (0, .ofNat 0, .ofNat 0)), (0, 4, (7, .ofNat 1, .ofNat 0), (10, .ofNat 1, .ofNat 0), (0, .ofNat 0, .ofNat 0)), (0, 3, (7, .ofNat 1, .ofNat 0), (9, .ofNat 1, .ofNat 0), (0, .ofNat 0, .ofNat 0)), (2, 2, (7, .ofNat 1, .ofNat 0), (8, .ofNat 1, .ofNat 0), (0, .ofNat 0, .ofNat 0)), (0, 1, (0, .ofNat 0, .ofNat 0), (8, .ofNat 1, .ofNat 0), (0, .ofNat 0, .ofNat 0))], [(1, [(.ofNat 0, .ofNat 3)]), (2, [(.ofNat 0, .ofNat 60)]), (3, [(.ofNat 1, .ofNat 20)]), (4, [(.ofNat 0, .ofNat 1000)]), (5, [(.ofNat 0, .ofNat 64)]), (6, [(.ofNat 0, .ofNat 7)]), (7, [(.ofNat 0, .ofNat 7)]), (8, [(.ofNat 1, .ofNat 8)]), (9, [(.ofNat 0, .ofNat 1)]), (10, [(.ofNat 0, .ofNat 9)]), (11, [(.ofNat 0, .ofNat 9)]), (12, [(.negSucc 1, .negSucc 1)]), (13, [(.ofNat 0, .ofNat 1)]), (14, [(.ofNat 0, .ofNat 0)])], [((11, .ofNat 1, .ofNat 0), (10, .ofNat 1, .ofNat 0), (14, .ofNat 1, .ofNat 0)), ((11, .ofNat 1, .ofNat 0), (10, .negSucc 0, .ofNat 0), (12, .ofNat 1, .ofNat 0))], []),
  (148, [(0, .inr (.inl [0])), (1, .inl (false, (1, .ofNat 1, .ofNat 0))), (3, .inl (false, (2, .ofNat 1, .ofNat 0))), (4, .inl (false, (3, .ofNat 1, .ofNat 0))), (5, .inl (false, (4, .ofNat 1, .ofNat 0))), (7, .inl (false, (5, .ofNat 1, .ofNat 0))), (8, .inl (false, (6, .ofNat 1, .ofNat 0))), (9, .inl (false, (7, .ofNat 1, .ofNat 0)))], [.inl (false, (7, .ofNat 1, .ofNat 0)), .inl (false, (6, .ofNat 1, .ofNat 0)), .inr (.inl [1]), .inr (.inl [64])], [(2, 1, (0, .ofNat 0, .ofNat 1), (0, .ofNat 0, .ofNat 0), (0, .ofNat 0, .ofNat 0)), (2, 4, (14, .ofNat 1, .ofNat 0), (0, .ofNat 0, .ofNat 0), (0, .ofNat 0, .ofNat 0)), (0, 4, (6, .ofNat 1, .ofNat 0), (11, .ofNat 1, .ofNat 0), (0, .ofNat 0, .ofNat 0)), (2, 0, (12, .negSucc 0, .ofNat 0), (0, .ofNat 0, .ofNat 2), (0, .ofNat 0, .ofNat 0)), (2, 1, (12, .negSucc 0, .ofNat 0), (0, .ofNat 0, .ofNat 0), (0, .ofNat 0, .ofNat 0)), (2, 1, (13, .ofNat 1, .ofNat 0), (9, .ofNat 1, .ofNat 0), (0, .ofNat 0, .ofNat 0)), (0, 3, (6, .ofNat 1, .ofNat 0), (13, .ofNat 1, .ofNat 0), (0, .ofNat 0, .ofNat 0)), (2, 2, (12, .ofNat 1, .ofNat 0), (0, .ofNat 0, .ofNat 0), (0, .ofNat 0, .ofNat 0)), (0, 4, (6, .ofNat 1, .ofNat 0), (11, .ofNat 1, .ofNat 0), (0, .ofNat 0, .ofNat 0)), (0, 4, (7, .ofNat 1, .ofNat 0), (10, .ofNat 1, .ofNat 0), (0, .ofNat 0, .ofNat 0)), (0, 3, (7, .ofNat 1, .ofNat 0), (9, .ofNat 1, .ofNat 0), (0, .ofNat 0, .ofNat 0)), (2, 2, (7, .ofNat 1, .ofNat 0), (8, .ofNat 1, .ofNat 0), (0, .ofNat 0, .ofNat 0)), (0, 1, (0, .ofNat 0, .ofNat 0), (8, .ofNat 1, .ofNat 0), (0, .ofNat 0, .ofNat 0))], [(1, [(.ofNat 0, .ofNat 3)]), (2, [(.ofNat 0, .ofNat 60)]), (3, [(.ofNat 1, .ofNat 20)]), (4, [(.ofNat 0, .ofNat 1000)]), (5, [(.ofNat 0, .ofNat 64)]), (6, [(.ofNat 0, .ofNat 7)]), (7, [(.ofNat 0, .ofNat 7)]), (8, [(.ofNat 1, .ofNat 8)]), (9, [(.ofNat 0, .ofNat 1)]), (10, [(.ofNat 0, .ofNat 9)]), (11, [(.ofNat 0, .ofNat 9)]), (12, [(.negSucc 1, .negSucc 1)]), (13, [(.ofNat 0, .ofNat 1)]), (14, [(.ofNat 1, .ofNat 18)])], [((11, .ofNat 1, .ofNat 0), (10, .ofNat 1, .ofNat 0), (14, .ofNat 1, .ofNat 0)), ((11, .ofNat 1, .ofNat 0), (10, .negSucc 0, .ofNat 0), (12, .ofNat 1, .ofNat 0))], [])]
set_option maxRecDepth 1000000 in
theorem sg_mh_x3_g : sg_go [] [147, 109, 94] 3000 129 109 3 8 [(0, [(.ofNat 0, .ofNat 0)]), (1, [(.ofNat 0, .ofNat 3)]), (2, [(.ofNat 0, .ofNat 60)]), (3, [(.ofNat 1, .ofNat 20)]), (4, [(.ofNat 0, .ofNat 1000)]), (5, [(.ofNat 0, .ofNat 64)]), (6, [(.ofNat 0, .ofNat 7)]), (7, [(.ofNat 0, .ofNat 8)])] [] [] [] [(0, .inr (.inl [0])), (1, .inl (false, (1, .ofNat 1, .ofNat 0))), (3, .inl (false, (2, .ofNat 1, .ofNat 0))), (4, .inl (false, (3, .ofNat 1, .ofNat 0))), (5, .inl (false, (4, .ofNat 1, .ofNat 0))), (7, .inl (false, (5, .ofNat 1, .ofNat 0))), (8, .inl (false, (6, .ofNat 1, .ofNat 0))), (9, .inl (false, (7, .ofNat 1, .ofNat 0)))] [] [] sg_mh_x3_Z = true := by decide +kernel
set_option maxRecDepth 100000 in
theorem sg_mh_x3 {Q : Option Value × am_S → Prop} {d : Nat} {S : am_S} {L : am_L} {x1 x2 x3 x4 x5 x6 x7 : Int} (hd : 3 ≤ d) (hP : ax_P0 none S) (l0 : lc L 0 0) (l1 : li L 1 x1) (l3 : li L 3 x2) (l4 : li L 4 x3) (l5 : li L 5 x4) (l7 : li L 7 x5) (l8 : li L 8 x6) (l9 : li L 9 x7) (b1 : (0 ≤ x1 ∧ x1 ≤ 3)) (b2 : (0 ≤ x2 ∧ x2 ≤ 60)) (b3 : (1 ≤ x3 ∧ x3 ≤ 20)) (b4 : (0 ≤ x4 ∧ x4 ≤ 1000)) (b5 : (0 ≤ x5 ∧ x5 ≤ 64)) (b6 : (0 ≤ x6 ∧ x6 ≤ 7)) (b7 : (0 ≤ x7 ∧ x7 ≤ 8))
    (k0 : ∀ (x8 : Int) (L' : am_L), rd S 1 0 = x8 → x8 ≤ x7 → (0 ≤ x1 ∧ x1 ≤ 3) → (0 ≤ x2 ∧ x2 ≤ 60) → (1 ≤ x3 ∧ x3 ≤ 20) → (0 ≤ x4 ∧ x4 ≤ 1000) → (0 ≤ x5 ∧ x5 ≤ 64) → (0 ≤ x6 ∧ x6 ≤ 7) → (0 ≤ x7 ∧ x7 ≤ 8) → (0 ≤ x8 ∧ x8 ≤ 8) → lc L' 0 0 → li L' 1 x1 → li L' 3 x2 → li L' 4 x3 → li L' 5 x4 → li L' 7 x5 → li L' 8 (x6 + 1) → li L' 9 x7 → am_V none d 129 94 L' ([]) S Q)
    (k1 : ∀ (x8 x9 x10 x11 x12 x13 : Int) (L' : am_L), rd S 1 0 = x8 → x7 < x8 → rd S 3 x7 = x9 → rd S 4 x7 = x10 → rd S 4 x6 = x11 → 0 ≤ x12 → rd S 3 x6 = x13 → x13 = x9 → (0 ≤ x1 ∧ x1 ≤ 3) → (0 ≤ x2 ∧ x2 ≤ 60) → (1 ≤ x3 ∧ x3 ≤ 20) → (0 ≤ x4 ∧ x4 ≤ 1000) → (0 ≤ x5 ∧ x5 ≤ 64) → (0 ≤ x6 ∧ x6 ≤ 7) → (0 ≤ x7 ∧ x7 ≤ 7) → (1 ≤ x8 ∧ x8 ≤ 8) → (0 ≤ x9 ∧ x9 ≤ 1) → (0 ≤ x10 ∧ x10 ≤ 9) → (0 ≤ x11 ∧ x11 ≤ 9) → (0 ≤ x12 ∧ x12 ≤ 9) → (0 ≤ x13 ∧ x13 ≤ 1) → x11 + ((-1) * x10 + 0) = x12 → lc L' 0 0 → li L' 1 x1 → li L' 3 x2 → li L' 4 x3 → li L' 5 x4 → li L' 7 x5 → li L' 8 x6 → li L' 9 (x7 + 1) → am_V none d 129 109 L' ([]) S Q)
    (k2 : ∀ (x8 x9 x10 x11 x12 x13 x14 : Int) (L' : am_L), rd S 1 0 = x8 → x7 < x8 → rd S 3 x7 = x9 → rd S 4 x7 = x10 → rd S 4 x6 = x11 → 0 ≤ x12 → rd S 3 x6 = x13 → x13 ≠ x9 → x12 = 0 → x14 ≤ 0 → (0 ≤ x1 ∧ x1 ≤ 3) → (0 ≤ x2 ∧ x2 ≤ 60) → (1 ≤ x3 ∧ x3 ≤ 20) → (0 ≤ x4 ∧ x4 ≤ 1000) → (0 ≤ x5 ∧ x5 ≤ 64) → (0 ≤ x6 ∧ x6 ≤ 7) → (0 ≤ x7 ∧ x7 ≤ 7) → (1 ≤ x8 ∧ x8 ≤ 8) → (0 ≤ x9 ∧ x9 ≤ 1) → (0 ≤ x10 ∧ x10 ≤ 9) → (0 ≤ x11 ∧ x11 ≤ 9) → (0 ≤ x12 ∧ x12 ≤ 0) → (0 ≤ x13 ∧ x13 ≤ 1) → (0 ≤ x14 ∧ x14 ≤ 0) → x11 + x10 = x14 → x11 + ((-1) * x10 + 0) = x12 → lc L' 0 0 → li L' 1 x1 → li L' 3 x2 → li L' 4 x3 → li L' 5 x4 → li L' 7 x5 → li L' 8 x6 → li L' 9 (x7 + 1) → am_V none d 129 109 L' ([]) S Q)
    (k3 : ∀ (x8 x9 x10 x11 x12 x13 x14 : Int) (L' : am_L) (i1 : Int32) (i2 : Int32), rd S 1 0 = x8 → x7 < x8 → rd S 3 x7 = x9 → rd S 4 x7 = x10 → rd S 4 x6 = x11 → 0 ≤ x12 → rd S 3 x6 = x13 → x13 ≠ x9 → x12 = 0 → 0 < x14 → (0 ≤ x1 ∧ x1 ≤ 3) → (0 ≤ x2 ∧ x2 ≤ 60) → (1 ≤ x3 ∧ x3 ≤ 20) → (0 ≤ x4 ∧ x4 ≤ 1000) → (0 ≤ x5 ∧ x5 ≤ 64) → (0 ≤ x6 ∧ x6 ≤ 7) → (0 ≤ x7 ∧ x7 ≤ 7) → (1 ≤ x8 ∧ x8 ≤ 8) → (0 ≤ x9 ∧ x9 ≤ 1) → (0 ≤ x10 ∧ x10 ≤ 9) → (0 ≤ x11 ∧ x11 ≤ 9) → (0 ≤ x12 ∧ x12 ≤ 0) → (0 ≤ x13 ∧ x13 ≤ 1) → (1 ≤ x14 ∧ x14 ≤ 18) → x11 + x10 = x14 → x11 + ((-1) * x10 + 0) = x12 → lc L' 0 0 → li L' 1 x1 → li L' 3 x2 → li L' 4 x3 → li L' 5 x4 → li L' 7 x5 → li L' 8 x6 → li L' 9 x7 → i1.toInt = x7 → i2.toInt = x6 → am_V none d 129 147 L' ((.int i1) :: (.int i2) :: (.ref 1) :: (.ref 64) :: []) S Q)
    (k4 : ∀ (x8 x9 x10 x11 x12 x13 : Int) (L' : am_L), rd S 1 0 = x8 → x7 < x8 → rd S 3 x7 = x9 → rd S 4 x7 = x10 → rd S 4 x6 = x11 → 0 ≤ x12 → rd S 3 x6 = x13 → x13 ≠ x9 → x12 ≠ 0 → x12 ≠ 2 → (0 ≤ x1 ∧ x1 ≤ 3) → (0 ≤ x2 ∧ x2 ≤ 60) → (1 ≤ x3 ∧ x3 ≤ 20) → (0 ≤ x4 ∧ x4 ≤ 1000) → (0 ≤ x5 ∧ x5 ≤ 64) → (0 ≤ x6 ∧ x6 ≤ 7) → (0 ≤ x7 ∧ x7 ≤ 7) → (1 ≤ x8 ∧ x8 ≤ 8) → (0 ≤ x9 ∧ x9 ≤ 1) → (0 ≤ x10 ∧ x10 ≤ 9) → (0 ≤ x11 ∧ x11 ≤ 9) → (1 ≤ x12 ∧ x12 ≤ 1) ∨ (3 ≤ x12 ∧ x12 ≤ 9) → (0 ≤ x13 ∧ x13 ≤ 1) → x11 + ((-1) * x10 + 0) = x12 → lc L' 0 0 → li L' 1 x1 → li L' 3 x2 → li L' 4 x3 → li L' 5 x4 → li L' 7 x5 → li L' 8 x6 → li L' 9 (x7 + 1) → am_V none d 129 109 L' ([]) S Q)
    (k5 : ∀ (x8 x9 x10 x11 x12 x13 x14 : Int) (L' : am_L), rd S 1 0 = x8 → x7 < x8 → rd S 3 x7 = x9 → rd S 4 x7 = x10 → rd S 4 x6 = x11 → 0 ≤ x12 → rd S 3 x6 = x13 → x13 ≠ x9 → x12 ≠ 0 → x12 = 2 → x14 ≤ 0 → (0 ≤ x1 ∧ x1 ≤ 3) → (0 ≤ x2 ∧ x2 ≤ 60) → (1 ≤ x3 ∧ x3 ≤ 20) → (0 ≤ x4 ∧ x4 ≤ 1000) → (0 ≤ x5 ∧ x5 ≤ 64) → (0 ≤ x6 ∧ x6 ≤ 7) → (0 ≤ x7 ∧ x7 ≤ 7) → (1 ≤ x8 ∧ x8 ≤ 8) → (0 ≤ x9 ∧ x9 ≤ 1) → (0 ≤ x10 ∧ x10 ≤ 9) → (0 ≤ x11 ∧ x11 ≤ 9) → (2 ≤ x12 ∧ x12 ≤ 2) → (0 ≤ x13 ∧ x13 ≤ 1) → (0 ≤ x14 ∧ x14 ≤ 0) → x11 + x10 = x14 → x11 + ((-1) * x10 + 0) = x12 → lc L' 0 0 → li L' 1 x1 → li L' 3 x2 → li L' 4 x3 → li L' 5 x4 → li L' 7 x5 → li L' 8 x6 → li L' 9 (x7 + 1) → am_V none d 129 109 L' ([]) S Q)
    (k6 : ∀ (x8 x9 x10 x11 x12 x13 x14 : Int) (L' : am_L) (i1 : Int32) (i2 : Int32), rd S 1 0 = x8 → x7 < x8 → rd S 3 x7 = x9 → rd S 4 x7 = x10 → rd S 4 x6 = x11 → 0 ≤ x12 → rd S 3 x6 = x13 → x13 ≠ x9 → x12 ≠ 0 → x12 = 2 → 0 < x14 → (0 ≤ x1 ∧ x1 ≤ 3) → (0 ≤ x2 ∧ x2 ≤ 60) → (1 ≤ x3 ∧ x3 ≤ 20) → (0 ≤ x4 ∧ x4 ≤ 1000) → (0 ≤ x5 ∧ x5 ≤ 64) → (0 ≤ x6 ∧ x6 ≤ 7) → (0 ≤ x7 ∧ x7 ≤ 7) → (1 ≤ x8 ∧ x8 ≤ 8) → (0 ≤ x9 ∧ x9 ≤ 1) → (0 ≤ x10 ∧ x10 ≤ 9) → (0 ≤ x11 ∧ x11 ≤ 9) → (2 ≤ x12 ∧ x12 ≤ 2) → (0 ≤ x13 ∧ x13 ≤ 1) → (1 ≤ x14 ∧ x14 ≤ 18) → x11 + x10 = x14 → x11 + ((-1) * x10 + 0) = x12 → lc L' 0 0 → li L' 1 x1 → li L' 3 x2 → li L' 4 x3 → li L' 5 x4 → li L' 7 x5 → li L' 8 x6 → li L' 9 x7 → i1.toInt = x7 → i2.toInt = x6 → am_V none d 129 147 L' ((.int i1) :: (.int i2) :: (.ref 1) :: (.ref 64) :: []) S Q)
    (k7 : ∀ (x8 x9 x10 x11 x12 x13 : Int) (L' : am_L), rd S 1 0 = x8 → x7 < x8 → rd S 3 x7 = x9 → rd S 4 x7 = x10 → rd S 4 x6 = x11 → x12 < 0 → rd S 3 x6 = x13 → x13 = x9 → (0 ≤ x1 ∧ x1 ≤ 3) → (0 ≤ x2 ∧ x2 ≤ 60) → (1 ≤ x3 ∧ x3 ≤ 20) → (0 ≤ x4 ∧ x4 ≤ 1000) → (0 ≤ x5 ∧ x5 ≤ 64) → (0 ≤ x6 ∧ x6 ≤ 7) → (0 ≤ x7 ∧ x7 ≤ 7) → (1 ≤ x8 ∧ x8 ≤ 8) → (0 ≤ x9 ∧ x9 ≤ 1) → (0 ≤ x10 ∧ x10 ≤ 9) → (0 ≤ x11 ∧ x11 ≤ 9) → ((-9) ≤ x12 ∧ x12 ≤ (-1)) → (0 ≤ x13 ∧ x13 ≤ 1) → x11 + ((-1) * x10 + 0) = x12 → lc L' 0 0 → li L' 1 x1 → li L' 3 x2 → li L' 4 x3 → li L' 5 x4 → li L' 7 x5 → li L' 8 x6 → li L' 9 (x7 + 1) → am_V none d 129 109 L' ([]) S Q)
    (k8 : ∀ (x8 x9 x10 x11 x12 x13 : Int) (L' : am_L), rd S 1 0 = x8 → x7 < x8 → rd S 3 x7 = x9 → rd S 4 x7 = x10 → rd S 4 x6 = x11 → x12 < 0 → rd S 3 x6 = x13 → x13 ≠ x9 → (-1) * x12 + 0 ≠ 0 → (-1) * x12 + 0 ≠ 2 → (0 ≤ x1 ∧ x1 ≤ 3) → (0 ≤ x2 ∧ x2 ≤ 60) → (1 ≤ x3 ∧ x3 ≤ 20) → (0 ≤ x4 ∧ x4 ≤ 1000) → (0 ≤ x5 ∧ x5 ≤ 64) → (0 ≤ x6 ∧ x6 ≤ 7) → (0 ≤ x7 ∧ x7 ≤ 7) → (1 ≤ x8 ∧ x8 ≤ 8) → (0 ≤ x9 ∧ x9 ≤ 1) → (0 ≤ x10 ∧ x10 ≤ 9) → (0 ≤ x11 ∧ x11 ≤ 9) → ((-9) ≤ x12 ∧ x12 ≤ (-3)) ∨ ((-1) ≤ x12 ∧ x12 ≤ (-1)) → (0 ≤ x13 ∧ x13 ≤ 1) → x11 + ((-1) * x10 + 0) = x12 → lc L' 0 0 → li L' 1 x1 → li L' 3 x2 → li L' 4 x3 → li L' 5 x4 → li L' 7 x5 → li L' 8 x6 → li L' 9 (x7 + 1) → am_V none d 129 109 L' ([]) S Q)
    (k9 : ∀ (x8 x9 x10 x11 x12 x13 x14 : Int) (L' : am_L), rd S 1 0 = x8 → x7 < x8 → rd S 3 x7 = x9 → rd S 4 x7 = x10 → rd S 4 x6 = x11 → x12 < 0 → rd S 3 x6 = x13 → x13 ≠ x9 → (-1) * x12 + 0 ≠ 0 → (-1) * x12 + 0 = 2 → x14 ≤ 0 → (0 ≤ x1 ∧ x1 ≤ 3) → (0 ≤ x2 ∧ x2 ≤ 60) → (1 ≤ x3 ∧ x3 ≤ 20) → (0 ≤ x4 ∧ x4 ≤ 1000) → (0 ≤ x5 ∧ x5 ≤ 64) → (0 ≤ x6 ∧ x6 ≤ 7) → (0 ≤ x7 ∧ x7 ≤ 7) → (1 ≤ x8 ∧ x8 ≤ 8) → (0 ≤ x9 ∧ x9 ≤ 1) → (0 ≤ x10 ∧ x10 ≤ 9) → (0 ≤ x11 ∧ x11 ≤ 9) → ((-2) ≤ x12 ∧ x12 ≤ (-2)) → (0 ≤ x13 ∧ x13 ≤ 1) → (0 ≤ x14 ∧ x14 ≤ 0) → x11 + x10 = x14 → x11 + ((-1) * x10 + 0) = x12 → lc L' 0 0 → li L' 1 x1 → li L' 3 x2 → li L' 4 x3 → li L' 5 x4 → li L' 7 x5 → li L' 8 x6 → li L' 9 (x7 + 1) → am_V none d 129 109 L' ([]) S Q)
    (k10 : ∀ (x8 x9 x10 x11 x12 x13 x14 : Int) (L' : am_L) (i1 : Int32) (i2 : Int32), rd S 1 0 = x8 → x7 < x8 → rd S 3 x7 = x9 → rd S 4 x7 = x10 → rd S 4 x6 = x11 → x12 < 0 → rd S 3 x6 = x13 → x13 ≠ x9 → (-1) * x12 + 0 ≠ 0 → (-1) * x12 + 0 = 2 → 0 < x14 → (0 ≤ x1 ∧ x1 ≤ 3) → (0 ≤ x2 ∧ x2 ≤ 60) → (1 ≤ x3 ∧ x3 ≤ 20) → (0 ≤ x4 ∧ x4 ≤ 1000) → (0 ≤ x5 ∧ x5 ≤ 64) → (0 ≤ x6 ∧ x6 ≤ 7) → (0 ≤ x7 ∧ x7 ≤ 7) → (1 ≤ x8 ∧ x8 ≤ 8) → (0 ≤ x9 ∧ x9 ≤ 1) → (0 ≤ x10 ∧ x10 ≤ 9) → (0 ≤ x11 ∧ x11 ≤ 9) → ((-2) ≤ x12 ∧ x12 ≤ (-2)) → (0 ≤ x13 ∧ x13 ≤ 1) → (1 ≤ x14 ∧ x14 ≤ 18) → x11 + x10 = x14 → x11 + ((-1) * x10 + 0) = x12 → lc L' 0 0 → li L' 1 x1 → li L' 3 x2 → li L' 4 x3 → li L' 5 x4 → li L' 7 x5 → li L' 8 x6 → li L' 9 x7 → i1.toInt = x7 → i2.toInt = x6 → am_V none d 129 147 L' ((.int i1) :: (.int i2) :: (.ref 1) :: (.ref 64) :: []) S Q) : am_V none d 129 109 L ([]) S Q := by
  refine sg_use sg_mh_x3_g hd hP (sg_xs [0, x1, x2, x3, x4, x5, x6, x7]) ⟨⟨Int.le_refl 0, Int.le_refl 0⟩, b1, b2, b3, b4, b5, b6, b7, trivial⟩ trivial trivial trivial ⟨l0, l1, l3, l4, l5, l7, l8, l9, trivial⟩ trivial ?_
  intro z hz x' L' st' S' hx hP' hW hL' hs' hJ hE' hT' hD'
  have q1 : x' 1 = x1 := hx 1 (by decide)
  subst q1
  have q2 : x' 2 = x2 := hx 2 (by decide)
  subst q2
  have q3 : x' 3 = x3 := hx 3 (by decide)
  subst q3
  have q4 : x' 4 = x4 := hx 4 (by decide)
  subst q4
  have q5 : x' 5 = x5 := hx 5 (by decide)
  subst q5
  have q6 : x' 6 = x6 := hx 6 (by decide)
  subst q6
  have q7 : x' 7 = x7 := hx 7 (by decide)
  subst q7
  have eS : S' = S := hW.1 rfl
  subst eS
  simp only [sg_mh_x3_Z, List.mem_cons, List.not_mem_nil, or_false] at hz
  rcases hz with rfl | rfl | rfl | rfl | rfl | rfl | rfl | rfl | rfl | rfl | rfl
  · obtain ⟨f0, f1, hσ⟩ := hJ
    obtain ⟨e0, e1, e2, e3, e4, e5, e6, e7, -⟩ := hE'
    obtain ⟨p0, p1, p2, p3, p4, p5, p6, p7, -⟩ := hL'
    obtain rfl := sg_tn hs'
    exact k0 (x' 8) L' f0 f1 e0 e1 e2 e3 e4 e5 e6 e7 p0 p1 p2 p3 p4 p5 p6 p7
  · obtain ⟨f0, f1, f2, f3, f4, f5, f6, f7, -, hσ⟩ := hJ
    obtain ⟨e0, e1, e2, e3, e4, e5, e6, e7, e8, e9, e10, e11, e12, -⟩ := hE'
    obtain ⟨t0, -⟩ := hT'
    obtain ⟨p0, p1, p2, p3, p4, p5, p6, p7, -⟩ := hL'
    obtain rfl := sg_tn hs'
    exact k1 (x' 8) (x' 9) (x' 10) (x' 11) (x' 12) (x' 13) L' f0 f1 f2 f3 f4 f5 f6 f7 e0 e1 e2 e3 e4 e5 e6 e7 e8 e9 e10 e11 e12 t0 p0 p1 p2 p3 p4 p5 p6 p7
  · obtain ⟨f0, f1, f2, f3, f4, f5, f6, f7, f8, -, f10, -, hσ⟩ := hJ
    obtain ⟨e0, e1, e2, e3, e4, e5, e6, e7, e8, e9, e10, e11, e12, e13, -⟩ := hE'
    obtain ⟨t0, t1, -⟩ := hT'
    obtain ⟨p0, p1, p2, p3, p4, p5, p6, p7, -⟩ := hL'
    obtain rfl := sg_tn hs'
    exact k2 (x' 8) (x' 9) (x' 10) (x' 11) (x' 12) (x' 13) (x' 14) L' f0 f1 f2 f3 f4 f5 f6 f7 f8 f10 e0 e1 e2 e3 e4 e5 e6 e7 e8 e9 e10 e11 e12 e13 t0 t1 p0 p1 p2 p3 p4 p5 p6 p7
  · obtain ⟨f0, f1, f2, f3, f4, f5, f6, f7, f8, -, f10, -, hσ⟩ := hJ
    obtain ⟨e0, e1, e2, e3, e4, e5, e6, e7, e8, e9, e10, e11, e12, e13, -⟩ := hE'
    obtain ⟨t0, t1, -⟩ := hT'
    obtain ⟨p0, p1, p2, p3, p4, p5, p6, p7, -⟩ := hL'
    obtain ⟨v1, r1, rfl, ⟨i1, rfl, g1⟩, hs1⟩ := sg_tc hs'
    obtain ⟨v2, r2, rfl, ⟨i2, rfl, g2⟩, hs2⟩ := sg_tc hs1
    obtain ⟨v3, r3, rfl, rfl, hs3⟩ := sg_tc hs2
    obtain ⟨v4, r4, rfl, rfl, hs4⟩ := sg_tc hs3
    obtain rfl := sg_tn hs4
    exact k3 (x' 8) (x' 9) (x' 10) (x' 11) (x' 12) (x' 13) (x' 14) L' i1 i2 f0 f1 f2 f3 f4 f5 f6 f7 f8 f10 e0 e1 e2 e3 e4 e5 e6 e7 e8 e9 e10 e11 e12 e13 t0 t1 p0 p1 p2 p3 p4 p5 p6 p7 g1 g2
  · obtain ⟨f0, f1, f2, f3, f4, f5, f6, f7, f8, f9, -, hσ⟩ := hJ
    obtain ⟨e0, e1, e2, e3, e4, e5, e6, e7, e8, e9, e10, e11, e12, -⟩ := hE'
    obtain ⟨t0, -⟩ := hT'
    obtain ⟨p0, p1, p2, p3, p4, p5, p6, p7, -⟩ := hL'
    obtain rfl := sg_tn hs'
    exact k4 (x' 8) (x' 9) (x' 10) (x' 11) (x' 12) (x' 13) L' f0 f1 f2 f3 f4 f5 f6 f7 f8 f9 e0 e1 e2 e3 e4 e5 e6 e7 e8 e9 e10 e11 e12 t0 p0 p1 p2 p3 p4 p5 p6 p7
  · obtain ⟨f0, f1, f2, f3, f4, f5, f6, f7, f8, f9, -, f11, -, hσ⟩ := hJ
    obtain ⟨e0, e1, e2, e3, e4, e5, e6, e7, e8, e9, e10, e11, e12, e13, -⟩ := hE'
    obtain ⟨t0, t1, -⟩ := hT'
    obtain ⟨p0, p1, p2, p3, p4, p5, p6, p7, -⟩ := hL'
    obtain rfl := sg_tn hs'
    exact k5 (x' 8) (x' 9) (x' 10) (x' 11) (x' 12) (x' 13) (x' 14) L' f0 f1 f2 f3 f4 f5 f6 f7 f8 f9 f11 e0 e1 e2 e3 e4 e5 e6 e7 e8 e9 e10 e11 e12 e13 t0 t1 p0 p1 p2 p3 p4 p5 p6 p7
  · obtain ⟨f0, f1, f2, f3, f4, f5, f6, f7, f8, f9, -, f11, -, hσ⟩ := hJ
    obtain ⟨e0, e1, e2, e3, e4, e5, e6, e7, e8, e9, e10, e11, e12, e13, -⟩ := hE'
    obtain ⟨t0, t1, -⟩ := hT'
    obtain ⟨p0, p1, p2, p3, p4, p5, p6, p7, -⟩ := hL'
    obtain ⟨v1, r1, rfl, ⟨i1, rfl, g1⟩, hs1⟩ := sg_tc hs'
    obtain ⟨v2, r2, rfl, ⟨i2, rfl, g2⟩, hs2⟩ := sg_tc hs1
    obtain ⟨v3, r3, rfl, rfl, hs3⟩ := sg_tc hs2
    obtain ⟨v4, r4, rfl, rfl, hs4⟩ := sg_tc hs3
    obtain rfl := sg_tn hs4
    exact k6 (x' 8) (x' 9) (x' 10) (x' 11) (x' 12) (x' 13) (x' 14) L' i1 i2 f0 f1 f2 f3 f4 f5 f6 f7 f8 f9 f11 e0 e1 e2 e3 e4 e5 e6 e7 e8 e9 e10 e11 e12 e13 t0 t1 p0 p1 p2 p3 p4 p5 p6 p7 g1 g2
  · obtain ⟨f0, f1, f2, f3, f4, f5, f6, f7, -, hσ⟩ := hJ
    obtain ⟨e0, e1, e2, e3, e4, e5, e6, e7, e8, e9, e10, e11, e12, -⟩ := hE'
    obtain ⟨t0, -⟩ := hT'
    obtain ⟨p0, p1, p2, p3, p4, p5, p6, p7, -⟩ := hL'
    obtain rfl := sg_tn hs'
    exact k7 (x' 8) (x' 9) (x' 10) (x' 11) (x' 12) (x' 13) L' f0 f1 f2 f3 f4 f5 f6 f7 e0 e1 e2 e3 e4 e5 e6 e7 e8 e9 e10 e11 e12 t0 p0 p1 p2 p3 p4 p5 p6 p7
  · obtain ⟨f0, f1, f2, f3, f4, f5, f6, f7, f8, f9, -, hσ⟩ := hJ
    obtain ⟨e0, e1, e2, e3, e4, e5, e6, e7, e8, e9, e10, e11, e12, -⟩ := hE'
    obtain ⟨t0, -⟩ := hT'
    obtain ⟨p0, p1, p2, p3, p4, p5, p6, p7, -⟩ := hL'
    obtain rfl := sg_tn hs'
    exact k8 (x' 8) (x' 9) (x' 10) (x' 11) (x' 12) (x' 13) L' f0 f1 f2 f3 f4 f5 f6 f7 f8 f9 e0 e1 e2 e3 e4 e5 e6 e7 e8 e9 e10 e11 e12 t0 p0 p1 p2 p3 p4 p5 p6 p7
  · obtain ⟨f0, f1, f2, f3, f4, f5, f6, f7, f8, f9, -, f11, -, hσ⟩ := hJ
    obtain ⟨e0, e1, e2, e3, e4, e5, e6, e7, e8, e9, e10, e11, e12, e13, -⟩ := hE'
    obtain ⟨t0, t1, -⟩ := hT'
    obtain ⟨p0, p1, p2, p3, p4, p5, p6, p7, -⟩ := hL'
    obtain rfl := sg_tn hs'
    exact k9 (x' 8) (x' 9) (x' 10) (x' 11) (x' 12) (x' 13) (x' 14) L' f0 f1 f2 f3 f4 f5 f6 f7 f8 f9 f11 e0 e1 e2 e3 e4 e5 e6 e7 e8 e9 e10 e11 e12 e13 t0 t1 p0 p1 p2 p3 p4 p5 p6 p7
  · obtain ⟨f0, f1, f2, f3, f4, f5, f6, f7, f8, f9, -, f11, -, hσ⟩ := hJ
    obtain ⟨e0, e1, e2, e3, e4, e5, e6, e7, e8, e9, e10, e11, e12, e13, -⟩ := hE'
    obtain ⟨t0, t1, -⟩ := hT'
    obtain ⟨p0, p1, p2, p3, p4, p5, p6, p7, -⟩ := hL'
    obtain ⟨v1, r1, rfl, ⟨i1, rfl, g1⟩, hs1⟩ := sg_tc hs'
    obtain ⟨v2, r2, rfl, ⟨i2, rfl, g2⟩, hs2⟩ := sg_tc hs1
    obtain ⟨v3, r3, rfl, rfl, hs3⟩ := sg_tc hs2
    obtain ⟨v4, r4, rfl, rfl, hs4⟩ := sg_tc hs3
    obtain rfl := sg_tn hs4
    exact k10 (x' 8) (x' 9) (x' 10) (x' 11) (x' 12) (x' 13) (x' 14) L' i1 i2 f0 f1 f2 f3 f4 f5 f6 f7 f8 f9 f11 e0 e1 e2 e3 e4 e5 e6 e7 e8 e9 e10 e11 e12 e13 t0 t1 p0 p1 p2 p3 p4 p5 p6 p7 g1 g2
def sg_mh_x5_Z : List sg_z := [(110, [(0, .inr (.inl [0])), (1, .inl (false, (1, .ofNat 1, .ofNat 0))), (3, .inl (false, (2, .ofNat 1, .ofNat 0))), (4, .inl (false, (3, .ofNat 1, .ofNat 0))), (5, .inl (false, (4, .ofNat 1, .ofNat 0))), (7, .inl (false, (8, .ofNat 1, .ofNat 0))), (8, .inl (false, (5, .ofNat 1, .ofNat 0))), (9, .inl (false, (6, .ofNat 1, .ofNat 1)))], [], [(2, 0, (7, .ofNat 1, .ofNat 0), (0, .ofNat 0, .ofNat 0), (0, .ofNat 0, .ofNat 0))], [(1, [(.ofNat 0, .ofNat 3)]), (2, [(.ofNat 0, .ofNat 60)]), (3, [(.ofNat 1, .ofNat 20)]), (4, [(.ofNat 0, .ofNat 1000)]), (5, [(.ofNat 0, .ofNat 7)]), (6, [(.ofNat 0, .ofNat 7)]), (7, [(.ofNat 0, .ofNat 0)]), (8, [(.ofNat 0, .ofNat 64)])], [], []),
  (110, [(0, .inr (.inl [0])), (1, .inl (false, (1, .ofNat 1, .ofNat 0))), (3, .inl (false, (2, .ofNat 1, .ofNat 0))), (4, .inl (false, (3, .ofNat 1, .ofNat 0))), (5, .inl (false, (4, .ofNat 1, .ofNat 0))), (7, .inl (false, (8, .ofNat 1, .ofNat 1))), (8, .inl (false, (5, .ofNat 1, .ofNat 0))), (9, .inl (false, (6, .ofNat 1, .ofNat 1)))], [], [(2, 1, (7, .ofNat 1, .ofNat 0), (0, .ofNat 0, .ofNat 0), (0, .ofNat 0, .ofNat 0))], [(1, [(.ofNat 0, .ofNat 3)]), (2, [(.ofNat 0, .ofNat 60)]), (3, [(.ofNat 1, .ofNat 20)]), (4, [(.ofNat 0, .ofNat 1000)]), (5, [(.ofNat 0, .ofNat 7)]), (6, [(.ofNat 0, .ofNat 7)]), (7, [(.ofNat 1, .ofNat 1)]), (8, [(.ofNat 0, .ofNat 64)])], [], [])]
set_option maxRecDepth 1000000 in
theorem sg_mh_x5_g : sg_go [] [109] 3000 129 170 0 9 [(0, [(.ofNat 0, .ofNat 0)]), (1, [(.ofNat 0, .ofNat 3)]), (2, [(.ofNat 0, .ofNat 60)]), (3, [(.ofNat 1, .ofNat 20)]), (4, [(.ofNat 0, .ofNat 1000)]), (5, [(.ofNat 0, .ofNat 7)]), (6, [(.ofNat 0, .ofNat 7)]), (7, [(.ofNat 0, .ofNat 1)]), (8, [(.ofNat 0, .ofNat 64)])] [] [] [] [(0, .inr (.inl [0])), (1, .inl (false, (1, .ofNat 1, .ofNat 0))), (3, .inl (false, (2, .ofNat 1, .ofNat 0))), (4, .inl (false, (3, .ofNat 1, .ofNat 0))), (5, .inl (false, (4, .ofNat 1, .ofNat 0))), (8, .inl (false, (5, .ofNat 1, .ofNat 0))), (9, .inl (false, (6, .ofNat 1, .ofNat 0)))] [.inl (false, (7, .ofNat 1, .ofNat 0)), .inl (false, (8, .ofNat 1, .ofNat 0))] [] sg_mh_x5_Z = true := by decide +kernel
set_option maxRecDepth 100000 in
theorem sg_mh_x5 {Q : Option Value × am_S → Prop} {d : Nat} {S : am_S} {L : am_L} {x1 x2 x3 x4 x5 x6 x7 x8 : Int} {i1 : Int32} {i2 : Int32} (hd : 0 ≤ d) (hP : ax_P0 none S) (l0 : lc L 0 0) (l1 : li L 1 x1) (l3 : li L 3 x2) (l4 : li L 4 x3) (l5 : li L 5 x4) (l8 : li L 8 x5) (l9 : li L 9 x6) (b1 : (0 ≤ x1 ∧ x1 ≤ 3)) (b2 : (0 ≤ x2 ∧ x2 ≤ 60)) (b3 : (1 ≤ x3 ∧ x3 ≤ 20)) (b4 : (0 ≤ x4 ∧ x4 ≤ 1000)) (b5 : (0 ≤ x5 ∧ x5 ≤ 7)) (b6 : (0 ≤ x6 ∧ x6 ≤ 7)) (b7 : (0 ≤ x7 ∧ x7 ≤ 1)) (b8 : (0 ≤ x8 ∧ x8 ≤ 64)) (s1 : i1.toInt = x7) (s2 : i2.toInt = x8)
    (k0 : ∀ (L' : am_L), x7 = 0 → (0 ≤ x1 ∧ x1 ≤ 3) → (0 ≤ x2 ∧ x2 ≤ 60) → (1 ≤ x3 ∧ x3 ≤ 20) → (0 ≤ x4 ∧ x4 ≤ 1000) → (0 ≤ x5 ∧ x5 ≤ 7) → (0 ≤ x6 ∧ x6 ≤ 7) → (0 ≤ x7 ∧ x7 ≤ 0) → (0 ≤ x8 ∧ x8 ≤ 64) → lc L' 0 0 → li L' 1 x1 → li L' 3 x2 → li L' 4 x3 → li L' 5 x4 → li L' 7 x8 → li L' 8 x5 → li L' 9 (x6 + 1) → am_V none d 129 109 L' ([]) S Q)
    (k1 : ∀ (L' : am_L), x7 ≠ 0 → (0 ≤ x1 ∧ x1 ≤ 3) → (0 ≤ x2 ∧ x2 ≤ 60) → (1 ≤ x3 ∧ x3 ≤ 20) → (0 ≤ x4 ∧ x4 ≤ 1000) → (0 ≤ x5 ∧ x5 ≤ 7) → (0 ≤ x6 ∧ x6 ≤ 7) → (1 ≤ x7 ∧ x7 ≤ 1) → (0 ≤ x8 ∧ x8 ≤ 64) → lc L' 0 0 → li L' 1 x1 → li L' 3 x2 → li L' 4 x3 → li L' 5 x4 → li L' 7 (x8 + 1) → li L' 8 x5 → li L' 9 (x6 + 1) → am_V none d 129 109 L' ([]) S Q) : am_V none d 129 170 L ((.int i1) :: (.int i2) :: []) S Q := by
  refine sg_use sg_mh_x5_g hd hP (sg_xs [0, x1, x2, x3, x4, x5, x6, x7, x8]) ⟨⟨Int.le_refl 0, Int.le_refl 0⟩, b1, b2, b3, b4, b5, b6, b7, b8, trivial⟩ trivial trivial trivial ⟨l0, l1, l3, l4, l5, l8, l9, trivial⟩ ⟨⟨_, rfl, s1⟩, ⟨_, rfl, s2⟩, trivial⟩ ?_
  intro z hz x' L' st' S' hx hP' hW hL' hs' hJ hE' hT' hD'
  have q1 : x' 1 = x1 := hx 1 (by decide)
  subst q1
  have q2 : x' 2 = x2 := hx 2 (by decide)
  subst q2
  have q3 : x' 3 = x3 := hx 3 (by decide)
  subst q3
  have q4 : x' 4 = x4 := hx 4 (by decide)
  subst q4
  have q5 : x' 5 = x5 := hx 5 (by decide)
  subst q5
  have q6 : x' 6 = x6 := hx 6 (by decide)
  subst q6
  have q7 : x' 7 = x7 := hx 7 (by decide)
  subst q7
  have q8 : x' 8 = x8 := hx 8 (by decide)
  subst q8
  have eS : S' = S := hW.1 rfl
  subst eS
  simp only [sg_mh_x5_Z, List.mem_cons, List.not_mem_nil, or_false] at hz
  rcases hz with rfl | rfl
  · obtain ⟨f0, hσ⟩ := hJ
    obtain ⟨e0, e1, e2, e3, e4, e5, e6, e7, -⟩ := hE'
    obtain ⟨p0, p1, p2, p3, p4, p5, p6, p7, -⟩ := hL'
    obtain rfl := sg_tn hs'
    exact k0 L' f0 e0 e1 e2 e3 e4 e5 e6 e7 p0 p1 p2 p3 p4 p5 p6 p7
  · obtain ⟨f0, hσ⟩ := hJ
    obtain ⟨e0, e1, e2, e3, e4, e5, e6, e7, -⟩ := hE'
    obtain ⟨p0, p1, p2, p3, p4, p5, p6, p7, -⟩ := hL'
    obtain rfl := sg_tn hs'
    exact k1 L' f0 e0 e1 e2 e3 e4 e5 e6 e7 p0 p1 p2 p3 p4 p5 p6 p7
def sg_mh_m0_Z : List sg_z := [(0, [], [.inl (false, (0, .ofNat 0, .negSucc 0))], [(2, 0, (0, .ofNat 0, .ofNat 0), (0, .ofNat 0, .ofNat 0), (0, .ofNat 0, .ofNat 0)), (2, 2, (1, .ofNat 1, .ofNat 0), (0, .ofNat 0, .ofNat 0), (0, .ofNat 0, .ofNat 0))], [(1, [(.negSucc 2147483647, .negSucc 0)])], [], []),
  (0, [], [.inl (false, (0, .ofNat 0, .negSucc 0))], [(2, 0, (0, .ofNat 0, .ofNat 0), (0, .ofNat 0, .ofNat 0), (0, .ofNat 0, .ofNat 0)), (2, 4, (1, .ofNat 1, .ofNat 0), (0, .ofNat 0, .ofNat 3), (0, .ofNat 0, .ofNat 0)), (2, 3, (1, .ofNat 1, .ofNat 0), (0, .ofNat 0, .ofNat 0), (0, .ofNat 0, .ofNat 0))], [(1, [(.ofNat 4, .ofNat 2147483647)])], [], []),
  (0, [], [.inl (false, (0, .ofNat 0, .negSucc 0))], [(2, 0, (0, .ofNat 0, .ofNat 0), (0, .ofNat 0, .ofNat 0), (0, .ofNat 0, .ofNat 0)), (2, 2, (2, .ofNat 1, .ofNat 0), (0, .ofNat 0, .ofNat 0), (0, .ofNat 0, .ofNat 0)), (2, 1, (0, .ofNat 0, .ofNat 1), (0, .ofNat 0, .ofNat 0), (0, .ofNat 0, .ofNat 0)), (2, 5, (1, .ofNat 1, .ofNat 0), (0, .ofNat 0, .ofNat 3), (0, .ofNat 0, .ofNat 0)), (2, 3, (1, .ofNat 1, .ofNat 0), (0, .ofNat 0, .ofNat 0), (0, .ofNat 0, .ofNat 0))], [(1, [(.ofNat 0, .ofNat 3)]), (2, [(.negSucc 2147483647, .negSucc 0)])], [], []),
  (0, [], [.inl (false, (0, .ofNat 0, .negSucc 0))], [(2, 0, (0, .ofNat 0, .ofNat 0), (0, .ofNat 0, .ofNat 0), (0, .ofNat 0, .ofNat 0)), (2, 4, (2, .ofNat 1, .ofNat 0), (0, .ofNat 0, .ofNat 2), (0, .ofNat 0, .ofNat 0)), (2, 3, (2, .ofNat 1, .ofNat 0), (0, .ofNat 0, .ofNat 0), (0, .ofNat 0, .ofNat 0)), (2, 1, (0, .ofNat 0, .ofNat 1), (0, .ofNat 0, .ofNat 0), (0, .ofNat 0, .ofNat 0)), (2, 5, (1, .ofNat 1, .ofNat 0), (0, .ofNat 0, .ofNat 3), (0, .ofNat 0, .ofNat 0)), (2, 3, (1, .ofNat 1, .ofNat 0), (0, .ofNat 0, .ofNat 0), (0, .ofNat 0, .ofNat 0))], [(1, [(.ofNat 0, .ofNat 3)]), (2, [(.ofNat 3, .ofNat 2147483647)])], [], []),
  (0, [], [.inl (false, (0, .ofNat 0, .negSucc 0))], [(2, 0, (0, .ofNat 0, .ofNat 0), (0, .ofNat 0, .ofNat 0), (0, .ofNat 0, .ofNat 0)), (2, 2, (4, .ofNat 1, .ofNat 0), (0, .ofNat 0, .ofNat 1), (0, .ofNat 0, .ofNat 0)), (2, 1, (0, .ofNat 0, .ofNat 1), (0, .ofNat 0, .ofNat 0), (0, .ofNat 0, .ofNat 0)), (2, 5, (2, .ofNat 1, .ofNat 0), (0, .ofNat 0, .ofNat 2), (0, .ofNat 0, .ofNat 0)), (2, 3, (2, .ofNat 1, .ofNat 0), (0, .ofNat 0, .ofNat 0), (0, .ofNat 0, .ofNat 0)), (2, 1, (0, .ofNat 0, .ofNat 1), (0, .ofNat 0, .ofNat 0), (0, .ofNat 0, .ofNat 0)), (2, 5, (1, .ofNat 1, .ofNat 0), (0, .ofNat 0, .ofNat 3), (0, .ofNat 0, .ofNat 0)), (2, 3, (1, .ofNat 1, .ofNat 0), (0, .ofNat 0, .ofNat 0), (0, .ofNat 0, .ofNat 0))], [(1, [(.ofNat 0, .ofNat 3)]), (2, [(.ofNat 0, .ofNat 2)]), (4, [(.negSucc 2147483647, .ofNat 0)])], [], []),
  (0, [], [.inl (false, (0, .ofNat 0, .negSucc 0))], [(2, 0, (0, .ofNat 0, .ofNat 0), (0, .ofNat 0, .ofNat 0), (0, .ofNat 0, .ofNat 0)), (2, 4, (4, .ofNat 1, .ofNat 0), (0, .ofNat 0, .ofNat 20), (0, .ofNat 0, .ofNat 0)), (2, 3, (4, .ofNat 1, .ofNat 0), (0, .ofNat 0, .ofNat 1), (0, .ofNat 0, .ofNat 0)), (2, 1, (0, .ofNat 0, .ofNat 1), (0, .ofNat 0, .ofNat 0), (0, .ofNat 0, .ofNat 0)), (2, 5, (2, .ofNat 1, .ofNat 0), (0, .ofNat 0, .ofNat 2), (0, .ofNat 0, .ofNat 0)), (2, 3, (2, .ofNat 1, .ofNat 0), (0, .ofNat 0, .ofNat 0), (0, .ofNat 0, .ofNat 0)), (2, 1, (0, .ofNat 0, .ofNat 1), (0, .ofNat 0, .ofNat 0), (0, .ofNat 0, .ofNat 0)), (2, 5, (1, .ofNat 1, .ofNat 0), (0, .ofNat 0, .ofNat 3), (0, .ofNat 0, .ofNat 0)), (2, 3, (1, .ofNat 1, .ofNat 0), (0, .ofNat 0, .ofNat 0), (0, .ofNat 0, .ofNat 0))], [(1, [(.ofNat 0, .ofNat 3)]), (2, [(.ofNat 0, .ofNat 2)]), (4, [(.ofNat 21, .ofNat 2147483647)])], [], []),
  (0, [], [.inl (false, (0, .ofNat 0, .negSucc 0))], [(2, 0, (0, .ofNat 0, .ofNat 0), (0, .ofNat 0, .ofNat 0), (0, .ofNat 0, .ofNat 0)), (2, 2, (5, .ofNat 1, .ofNat 0), (0, .ofNat 0, .ofNat 0), (0, .ofNat 0, .ofNat 0)), (2, 1, (0, .ofNat 0, .ofNat 1), (0, .ofNat 0, .ofNat 0), (0, .ofNat 0, .ofNat 0)), (2, 5, (4, .ofNat 1, .ofNat 0), (0, .ofNat 0, .ofNat 20), (0, .ofNat 0, .ofNat 0)), (2, 3, (4, .ofNat 1, .ofNat 0), (0, .ofNat 0, .ofNat 1), (0, .ofNat 0, .ofNat 0)), (2, 1, (0, .ofNat 0, .ofNat 1), (0, .ofNat 0, .ofNat 0), (0, .ofNat 0, .ofNat 0)), (2, 5, (2, .ofNat 1, .ofNat 0), (0, .ofNat 0, .ofNat 2), (0, .ofNat 0, .ofNat 0)), (2, 3, (2, .ofNat 1, .ofNat 0), (0, .ofNat 0, .ofNat 0), (0, .ofNat 0, .ofNat 0)), (2, 1, (0, .ofNat 0, .ofNat 1), (0, .ofNat 0, .ofNat 0), (0, .ofNat 0, .ofNat 0)), (2, 5, (1, .ofNat 1, .ofNat 0), (0, .ofNat 0, .ofNat 3), (0, .ofNat 0, .ofNat 0)), (2, 3, (1, .ofNat 1, .ofNat 0), (0, .ofNat 0, .ofNat 0), (0, .ofNat 0, .ofNat 0))], [(1, [(.ofNat 0, .ofNat 3)]), (2, [(.ofNat 0, .ofNat 2)]), (4, [(.ofNat 1, .ofNat 20)]), (5, [(.negSucc 2147483647, .negSucc 0)])], [], []),
  (0, [], [.inl (false, (0, .ofNat 0, .negSucc 0))], [(2, 0, (0, .ofNat 0, .ofNat 0), (0, .ofNat 0, .ofNat 0), (0, .ofNat 0, .ofNat 0)), (2, 4, (5, .ofNat 1, .ofNat 0), (0, .ofNat 0, .ofNat 1000), (0, .ofNat 0, .ofNat 0)), (2, 3, (5, .ofNat 1, .ofNat 0), (0, .ofNat 0, .ofNat 0), (0, .ofNat 0, .ofNat 0)), (2, 1, (0, .ofNat 0, .ofNat 1), (0, .ofNat 0, .ofNat 0), (0, .ofNat 0, .ofNat 0)), (2, 5, (4, .ofNat 1, .ofNat 0), (0, .ofNat 0, .ofNat 20), (0, .ofNat 0, .ofNat 0)), (2, 3, (4, .ofNat 1, .ofNat 0), (0, .ofNat 0, .ofNat 1), (0, .ofNat 0, .ofNat 0)), (2, 1, (0, .ofNat 0, .ofNat 1), (0, .ofNat 0, .ofNat 0), (0, .ofNat 0, .ofNat 0)), (2, 5, (2, .ofNat 1, .ofNat 0), (0, .ofNat 0, .ofNat 2), (0, .ofNat 0, .ofNat 0)), (2, 3, (2, .ofNat 1, .ofNat 0), (0, .ofNat 0, .ofNat 0), (0, .ofNat 0, .ofNat 0)), (2, 1, (0, .ofNat 0, .ofNat 1), (0, .ofNat 0, .ofNat 0), (0, .ofNat 0, .ofNat 0)), (2, 5, (1, .ofNat 1, .ofNat 0), (0, .ofNat 0, .ofNat 3), (0, .ofNat 0, .ofNat 0)), (2, 3, (1, .ofNat 1, .ofNat 0), (0, .ofNat 0, .ofNat 0), (0, .ofNat 0, .ofNat 0))], [(1, [(.ofNat 0, .ofNat 3)]), (2, [(.ofNat 0, .ofNat 2)]), (4, [(.ofNat 1, .ofNat 20)]), (5, [(.ofNat 1001, .ofNat 2147483647)])], [], []),
  (0, [], [.inl (false, (0, .ofNat 0, .negSucc 11))], [(2, 2, (3, .ofNat 1, .ofNat 0), (0, .ofNat 0, .ofNat 0), (0, .ofNat 0, .ofNat 0)), (2, 0, (6, .ofNat 1, .ofNat 0), (2, .ofNat 1, .ofNat 0), (0, .ofNat 0, .ofNat 0)), (0, 158, (1, .ofNat 1, .ofNat 0), (6, .ofNat 1, .ofNat 0), (0, .ofNat 0, .ofNat 0)), (2, 1, (0, .ofNat 0, .ofNat 1), (0, .ofNat 0, .ofNat 0), (0, .ofNat 0, .ofNat 0)), (2, 5, (5, .ofNat 1, .ofNat 0), (0, .ofNat 0, .ofNat 1000), (0, .ofNat 0, .ofNat 0)), (2, 3, (5, .ofNat 1, .ofNat 0), (0, .ofNat 0, .ofNat 0), (0, .ofNat 0, .ofNat 0)), (2, 1, (0, .ofNat 0, .ofNat 1), (0, .ofNat 0, .ofNat 0), (0, .ofNat 0, .ofNat 0)), (2, 5, (4, .ofNat 1, .ofNat 0), (0, .ofNat 0, .ofNat 20), (0, .ofNat 0, .ofNat 0)), (2, 3, (4, .ofNat 1, .ofNat 0), (0, .ofNat 0, .ofNat 1), (0, .ofNat 0, .ofNat 0)), (2, 1, (0, .ofNat 0, .ofNat 1), (0, .ofNat 0, .ofNat 0), (0, .ofNat 0, .ofNat 0)), (2, 5, (2, .ofNat 1, .ofNat 0), (0, .ofNat 0, .ofNat 2), (0, .ofNat 0, .ofNat 0)), (2, 3, (2, .ofNat 1, .ofNat 0), (0, .ofNat 0, .ofNat 0), (0, .ofNat 0, .ofNat 0)), (2, 1, (0, .ofNat 0, .ofNat 1), (0, .ofNat 0, .ofNat 0), (0, .ofNat 0, .ofNat 0)), (2, 5, (1, .ofNat 1, .ofNat 0), (0, .ofNat 0, .ofNat 3), (0, .ofNat 0, .ofNat 0)), (2, 3, (1, .ofNat 1, .ofNat 0), (0, .ofNat 0, .ofNat 0), (0, .ofNat 0, .ofNat 0))], [(1, [(.ofNat 0, .ofNat 3)]), (2, [(.ofNat 0, .ofNat 2)]), (3, [(.negSucc 2147483647, .negSucc 0)]), (4, [(.ofNat 1, .ofNat 20)]), (5, [(.ofNat 0, .ofNat 1000)]), (6, [(.ofNat 0, .ofNat 2)])], [], []),
  (112, [(0, .inr (.inl [122])), (1, .inl (false, (1, .ofNat 1, .ofNat 0))), (2, .inl (false, (2, .ofNat 1, .ofNat 0))), (3, .inl (false, (3, .ofNat 1, .ofNat 0))), (4, .inl (false, (4, .ofNat 1, .ofNat 0))), (5, .inl (false, (5, .ofNat 1, .ofNat 0))), (6, .inl (false, (0, .ofNat 0, .ofNat 0))), (7, .inl (false, (0, .ofNat 0, .ofNat 0)))], [], [(2, 5, (7, .ofNat 1, .ofNat 0), (8, .ofNat 1, .ofNat 0), (0, .ofNat 0, .ofNat 0)), (0, 159, (1, .ofNat 1, .ofNat 0), (8, .ofNat 1, .ofNat 0), (0, .ofNat 0, .ofNat 0)), (2, 3, (3, .ofNat 1, .ofNat 0), (0, .ofNat 0, .ofNat 0), (0, .ofNat 0, .ofNat 0)), (2, 0, (6, .ofNat 1, .ofNat 0), (2, .ofNat 1, .ofNat 0), (0, .ofNat 0, .ofNat 0)), (0, 158, (1, .ofNat 1, .ofNat 0), (6, .ofNat 1, .ofNat 0), (0, .ofNat 0, .ofNat 0)), (2, 1, (0, .ofNat 0, .ofNat 1), (0, .ofNat 0, .ofNat 0), (0, .ofNat 0, .ofNat 0)), (2, 5, (5, .ofNat 1, .ofNat 0), (0, .ofNat 0, .ofNat 1000), (0, .ofNat 0, .ofNat 0)), (2, 3, (5, .ofNat 1, .ofNat 0), (0, .ofNat 0, .ofNat 0), (0, .ofNat 0, .ofNat 0)), (2, 1, (0, .ofNat 0, .ofNat 1), (0, .ofNat 0, .ofNat 0), (0, .ofNat 0, .ofNat 0)), (2, 5, (4, .ofNat 1, .ofNat 0), (0, .ofNat 0, .ofNat 20), (0, .ofNat 0, .ofNat 0)), (2, 3, (4, .ofNat 1, .ofNat 0), (0, .ofNat 0, .ofNat 1), (0, .ofNat 0, .ofNat 0)), (2, 1, (0, .ofNat 0, .ofNat 1), (0, .ofNat 0, .ofNat 0), (0, .ofNat 0, .ofNat 0)), (2, 5, (2, .ofNat 1, .ofNat 0), (0, .ofNat 0, .ofNat 2), (0, .ofNat 0, .ofNat 0)), (2, 3, (2, .ofNat 1, .ofNat 0), (0, .ofNat 0, .ofNat 0), (0, .ofNat 0, .ofNat 0)), (2, 1, (0, .ofNat 0, .ofNat 1), (0, .ofNat 0, .ofNat 0), (0, .ofNat 0, .ofNat 0)), (2, 5, (1, .ofNat 1, .ofNat 0), (0, .ofNat 0, .ofNat 3), (0, .ofNat 0, .ofNat 0)), (2, 3, (1, .ofNat 1, .ofNat 0), (0, .ofNat 0, .ofNat 0), (0, .ofNat 0, .ofNat 0))], [(1, [(.ofNat 0, .ofNat 3)]), (2, [(.ofNat 0, .ofNat 2)]), (3, [(.ofNat 0, .ofNat 2147483647)]), (4, [(.ofNat 1, .ofNat 20)]), (5, [(.ofNat 0, .ofNat 1000)]), (6, [(.ofNat 0, .ofNat 2)]), (7, [(.ofNat 1, .ofNat 60)]), (8, [(.ofNat 1, .ofNat 60)])], [((3, .ofNat 1, .ofNat 0), (4, .ofNat 1, .ofNat 0), (7, .ofNat 1, .ofNat 0))], []),
  (0, [], [.inl (false, (0, .ofNat 0, .negSucc 11))], [(2, 4, (7, .ofNat 1, .ofNat 0), (8, .ofNat 1, .ofNat 0), (0, .ofNat 0, .ofNat 0)), (0, 159, (1, .ofNat 1, .ofNat 0), (8, .ofNat 1, .ofNat 0), (0, .ofNat 0, .ofNat 0)), (2, 3, (3, .ofNat 1, .ofNat 0), (0, .ofNat 0, .ofNat 0), (0, .ofNat 0, .ofNat 0)), (2, 0, (6, .ofNat 1, .ofNat 0), (2, .ofNat 1, .ofNat 0), (0, .ofNat 0, .ofNat 0)), (0, 158, (1, .ofNat 1, .ofNat 0), (6, .ofNat 1, .ofNat 0), (0, .ofNat 0, .ofNat 0)), (2, 1, (0, .ofNat 0, .ofNat 1), (0, .ofNat 0, .ofNat 0), (0, .ofNat 0, .ofNat 0)), (2, 5, (5, .ofNat 1, .ofNat 0), (0, .ofNat 0, .ofNat 1000), (0, .ofNat 0, .ofNat 0)), (2, 3, (5, .ofNat 1, .ofNat 0), (0, .ofNat 0, .ofNat 0), (0, .ofNat 0, .ofNat 0)), (2, 1, (0, .ofNat 0, .ofNat 1), (0, .ofNat 0, .ofNat 0), (0, .ofNat 0, .ofNat 0)), (2, 5, (4, .ofNat 1, .ofNat 0), (0, .ofNat 0, .ofNat 20), (0, .ofNat 0, .ofNat 0)), (2, 3, (4, .ofNat 1, .ofNat 0), (0, .ofNat 0, .ofNat 1), (0, .ofNat 0, .ofNat 0)), (2, 1, (0, .ofNat 0, .ofNat 1), (0, .ofNat 0, .ofNat 0), (0, .ofNat 0, .ofNat 0)), (2, 5, (2, .ofNat 1, .ofNat 0), (0, .ofNat 0, .ofNat 2), (0, .ofNat 0, .ofNat 0)), (2, 3, (2, .ofNat 1, .ofNat 0), (0, .ofNat 0, .ofNat 0), (0, .ofNat 0, .ofNat 0)), (2, 1, (0, .ofNat 0, .ofNat 1), (0, .ofNat 0, .ofNat 0), (0, .ofNat 0, .ofNat 0)), (2, 5, (1, .ofNat 1, .ofNat 0), (0, .ofNat 0, .ofNat 3), (0, .ofNat 0, .ofNat 0)), (2, 3, (1, .ofNat 1, .ofNat 0), (0, .ofNat 0, .ofNat 0), (0, .ofNat 0, .ofNat 0))], [(1, [(.ofNat 0, .ofNat 3)]), (2, [(.ofNat 0, .ofNat 2)]), (3, [(.ofNat 0, .ofNat 2147483647)]), (4, [(.ofNat 1, .ofNat 20)]), (5, [(.ofNat 0, .ofNat 1000)]), (6, [(.ofNat 0, .ofNat 2)]), (7, [(.ofNat 1, .ofNat 2147483667)]), (8, [(.ofNat 0, .ofNat 60)])], [((3, .ofNat 1, .ofNat 0), (4, .ofNat 1, .ofNat 0), (7, .ofNat 1, .ofNat 0))], []),
  (0, [], [.inl (false, (0, .ofNat 0, .negSucc 12))], [(2, 1, (6, .ofNat 1, .ofNat 0), (0, .ofNat 0, .negSucc 3), (0, .ofNat 0, .ofNat 0)), (0, 158, (1, .ofNat 1, .ofNat 0), (6, .ofNat 1, .ofNat 0), (0, .ofNat 0, .ofNat 0)), (2, 1, (6, .ofNat 1, .ofNat 0), (2, .ofNat 1, .ofNat 0), (0, .ofNat 0, .ofNat 0)), (0, 158, (1, .ofNat 1, .ofNat 0), (6, .ofNat 1, .ofNat 0), (0, .ofNat 0, .ofNat 0)), (2, 1, (0, .ofNat 0, .ofNat 1), (0, .ofNat 0, .ofNat 0), (0, .ofNat 0, .ofNat 0)), (2, 5, (5, .ofNat 1, .ofNat 0), (0, .ofNat 0, .ofNat 1000), (0, .ofNat 0, .ofNat 0)), (2, 3, (5, .ofNat 1, .ofNat 0), (0, .ofNat 0, .ofNat 0), (0, .ofNat 0, .ofNat 0)), (2, 1, (0, .ofNat 0, .ofNat 1), (0, .ofNat 0, .ofNat 0), (0, .ofNat 0, .ofNat 0)), (2, 5, (4, .ofNat 1, .ofNat 0), (0, .ofNat 0, .ofNat 20), (0, .ofNat 0, .ofNat 0)), (2, 3, (4, .ofNat 1, .ofNat 0), (0, .ofNat 0, .ofNat 1), (0, .ofNat 0, .ofNat 0)), (2, 1, (0, .ofNat 0, .ofNat 1), (0, .ofNat 0, .ofNat 0), (0, .ofNat 0, .ofNat 0)), (2, 5, (2, .ofNat 1, .ofNat 0), (0, .ofNat 0, .ofNat 2), (0, .ofNat 0, .ofNat 0)), (2, 3, (2, .ofNat 1, .ofNat 0), (0, .ofNat 0, .ofNat 0), (0, .ofNat 0, .ofNat 0)), (2, 1, (0, .ofNat 0, .ofNat 1), (0, .ofNat 0, .ofNat 0), (0, .ofNat 0, .ofNat 0)), (2, 5, (1, .ofNat 1, .ofNat 0), (0, .ofNat 0, .ofNat 3), (0, .ofNat 0, .ofNat 0)), (2, 3, (1, .ofNat 1, .ofNat 0), (0, .ofNat 0, .ofNat 0), (0, .ofNat 0, .ofNat 0))], [(1, [(.ofNat 0, .ofNat 3)]), (2, [(.ofNat 0, .ofNat 2)]), (4, [(.ofNat 1, .ofNat 20)]), (5, [(.ofNat 0, .ofNat 1000)]), (6, [(.ofNat 0, .ofNat 2)])], [], []),
  (0, [], [.inl (false, (0, .ofNat 0, .negSucc 10))], [(2, 0, (6, .ofNat 1, .ofNat 0), (0, .ofNat 0, .negSucc 3), (0, .ofNat 0, .ofNat 0)), (0, 158, (1, .ofNat 1, .ofNat 0), (6, .ofNat 1, .ofNat 0), (0, .ofNat 0, .ofNat 0)), (2, 1, (6, .ofNat 1, .ofNat 0), (2, .ofNat 1, .ofNat 0), (0, .ofNat 0, .ofNat 0)), (0, 158, (1, .ofNat 1, .ofNat 0), (6, .ofNat 1, .ofNat 0), (0, .ofNat 0, .ofNat 0)), (2, 1, (0, .ofNat 0, .ofNat 1), (0, .ofNat 0, .ofNat 0), (0, .ofNat 0, .ofNat 0)), (2, 5, (5, .ofNat 1, .ofNat 0), (0, .ofNat 0, .ofNat 1000), (0, .ofNat 0, .ofNat 0)), (2, 3, (5, .ofNat 1, .ofNat 0), (0, .ofNat 0, .ofNat 0), (0, .ofNat 0, .ofNat 0)), (2, 1, (0, .ofNat 0, .ofNat 1), (0, .ofNat 0, .ofNat 0), (0, .ofNat 0, .ofNat 0)), (2, 5, (4, .ofNat 1, .ofNat 0), (0, .ofNat 0, .ofNat 20), (0, .ofNat 0, .ofNat 0)), (2, 3, (4, .ofNat 1, .ofNat 0), (0, .ofNat 0, .ofNat 1), (0, .ofNat 0, .ofNat 0)), (2, 1, (0, .ofNat 0, .ofNat 1), (0, .ofNat 0, .ofNat 0), (0, .ofNat 0, .ofNat 0)), (2, 5, (2, .ofNat 1, .ofNat 0), (0, .ofNat 0, .ofNat 2), (0, .ofNat 0, .ofNat 0)), (2, 3, (2, .ofNat 1, .ofNat 0), (0, .ofNat 0, .ofNat 0), (0, .ofNat 0, .ofNat 0)), (2, 1, (0, .ofNat 0, .ofNat 1), (0, .ofNat 0, .ofNat 0), (0, .ofNat 0, .ofNat 0)), (2, 5, (1, .ofNat 1, .ofNat 0), (0, .ofNat 0, .ofNat 3), (0, .ofNat 0, .ofNat 0)), (2, 3, (1, .ofNat 1, .ofNat 0), (0, .ofNat 0, .ofNat 0), (0, .ofNat 0, .ofNat 0))], [(1, [(.ofNat 0, .ofNat 3)]), (2, [(.ofNat 0, .ofNat 2)]), (4, [(.ofNat 1, .ofNat 20)]), (5, [(.ofNat 0, .ofNat 1000)]), (6, [(.negSucc 3, .negSucc 3)])], [], [])]
set_option maxRecDepth 1000000 in
theorem sg_mh_m0_g : sg_go [] [111] 3000 251 0 1 6 [(0, [(.ofNat 0, .ofNat 0)]), (1, [(.negSucc 2147483647, .ofNat 2147483647)]), (2, [(.negSucc 2147483647, .ofNat 2147483647)]), (3, [(.negSucc 2147483647, .ofNat 2147483647)]), (4, [(.negSucc 2147483647, .ofNat 2147483647)]), (5, [(.negSucc 2147483647, .ofNat 2147483647)])] [] [] [] [(0, .inr (.inl [122])), (1, .inl (false, (1, .ofNat 1, .ofNat 0))), (2, .inl (false, (2, .ofNat 1, .ofNat 0))), (3, .inl (false, (3, .ofNat 1, .ofNat 0))), (4, .inl (false, (4, .ofNat 1, .ofNat 0))), (5, .inl (false, (5, .ofNat 1, .ofNat 0)))] [] [] sg_mh_m0_Z = true := by decide +kernel
set_option maxRecDepth 100000 in
theorem sg_mh_m0 {Q : Option Value × am_S → Prop} {d : Nat} {S : am_S} {L : am_L} {x1 x2 x3 x4 x5 : Int} (hd : 1 ≤ d) (hP : ax_P0 none S) (l0 : lc L 0 122) (l1 : li L 1 x1) (l2 : li L 2 x2) (l3 : li L 3 x3) (l4 : li L 4 x4) (l5 : li L 5 x5) (b1 : ((-2147483648) ≤ x1 ∧ x1 ≤ 2147483647)) (b2 : ((-2147483648) ≤ x2 ∧ x2 ≤ 2147483647)) (b3 : ((-2147483648) ≤ x3 ∧ x3 ≤ 2147483647)) (b4 : ((-2147483648) ≤ x4 ∧ x4 ≤ 2147483647)) (b5 : ((-2147483648) ≤ x5 ∧ x5 ≤ 2147483647))
    (k0 : ∀ (i1 : Int32), x1 < 0 → ((-2147483648) ≤ x1 ∧ x1 ≤ (-1)) → i1.toInt = (-1) → Q (some (.int i1), S))
    (k1 : ∀ (i1 : Int32), 0 ≤ x1 → 3 < x1 → (4 ≤ x1 ∧ x1 ≤ 2147483647) → i1.toInt = (-1) → Q (some (.int i1), S))
    (k2 : ∀ (i1 : Int32), 0 ≤ x1 → x1 ≤ 3 → x2 < 0 → (0 ≤ x1 ∧ x1 ≤ 3) → ((-2147483648) ≤ x2 ∧ x2 ≤ (-1)) → i1.toInt = (-1) → Q (some (.int i1), S))
    (k3 : ∀ (i1 : Int32), 0 ≤ x1 → x1 ≤ 3 → 0 ≤ x2 → 2 < x2 → (0 ≤ x1 ∧ x1 ≤ 3) → (3 ≤ x2 ∧ x2 ≤ 2147483647) → i1.toInt = (-1) → Q (some (.int i1), S))
    (k4 : ∀ (i1 : Int32), 0 ≤ x1 → x1 ≤ 3 → 0 ≤ x2 → x2 ≤ 2 → x4 < 1 → (0 ≤ x1 ∧ x1 ≤ 3) → (0 ≤ x2 ∧ x2 ≤ 2) → ((-2147483648) ≤ x4 ∧ x4 ≤ 0) → i1.toInt = (-1) → Q (some (.int i1), S))
    (k5 : ∀ (i1 : Int32), 0 ≤ x1 → x1 ≤ 3 → 0 ≤ x2 → x2 ≤ 2 → 1 ≤ x4 → 20 < x4 → (0 ≤ x1 ∧ x1 ≤ 3) → (0 ≤ x2 ∧ x2 ≤ 2) → (21 ≤ x4 ∧ x4 ≤ 2147483647) → i1.toInt = (-1) → Q (some (.int i1), S))
    (k6 : ∀ (i1 : Int32), 0 ≤ x1 → x1 ≤ 3 → 0 ≤ x2 → x2 ≤ 2 → 1 ≤ x4 → x4 ≤ 20 → x5 < 0 → (0 ≤ x1 ∧ x1 ≤ 3) → (0 ≤ x2 ∧ x2 ≤ 2) → (1 ≤ x4 ∧ x4 ≤ 20) → ((-2147483648) ≤ x5 ∧ x5 ≤ (-1)) → i1.toInt = (-1) → Q (some (.int i1), S))
    (k7 : ∀ (i1 : Int32), 0 ≤ x1 → x1 ≤ 3 → 0 ≤ x2 → x2 ≤ 2 → 1 ≤ x4 → x4 ≤ 20 → 0 ≤ x5 → 1000 < x5 → (0 ≤ x1 ∧ x1 ≤ 3) → (0 ≤ x2 ∧ x2 ≤ 2) → (1 ≤ x4 ∧ x4 ≤ 20) → (1001 ≤ x5 ∧ x5 ≤ 2147483647) → i1.toInt = (-1) → Q (some (.int i1), S))
    (k8 : ∀ (x6 : Int) (i1 : Int32), 0 ≤ x1 → x1 ≤ 3 → 0 ≤ x2 → x2 ≤ 2 → 1 ≤ x4 → x4 ≤ 20 → 0 ≤ x5 → x5 ≤ 1000 → rd S 158 x1 = x6 → x6 = x2 → x3 < 0 → (0 ≤ x1 ∧ x1 ≤ 3) → (0 ≤ x2 ∧ x2 ≤ 2) → ((-2147483648) ≤ x3 ∧ x3 ≤ (-1)) → (1 ≤ x4 ∧ x4 ≤ 20) → (0 ≤ x5 ∧ x5 ≤ 1000) → (0 ≤ x6 ∧ x6 ≤ 2) → i1.toInt = (-12) → Q (some (.int i1), S))
    (k9 : ∀ (x6 x7 x8 : Int) (L' : am_L), 0 ≤ x1 → x1 ≤ 3 → 0 ≤ x2 → x2 ≤ 2 → 1 ≤ x4 → x4 ≤ 20 → 0 ≤ x5 → x5 ≤ 1000 → rd S 158 x1 = x6 → x6 = x2 → 0 ≤ x3 → rd S 159 x1 = x8 → x7 ≤ x8 → (0 ≤ x1 ∧ x1 ≤ 3) → (0 ≤ x2 ∧ x2 ≤ 2) → (0 ≤ x3 ∧ x3 ≤ 2147483647) → (1 ≤ x4 ∧ x4 ≤ 20) → (0 ≤ x5 ∧ x5 ≤ 1000) → (0 ≤ x6 ∧ x6 ≤ 2) → (1 ≤ x7 ∧ x7 ≤ 60) → (1 ≤ x8 ∧ x8 ≤ 60) → x3 + x4 = x7 → lc L' 0 122 → li L' 1 x1 → li L' 2 x2 → li L' 3 x3 → li L' 4 x4 → li L' 5 x5 → li L' 6 0 → li L' 7 0 → am_V none d 251 111 L' ([]) S Q)
    (k10 : ∀ (x6 x7 x8 : Int) (i1 : Int32), 0 ≤ x1 → x1 ≤ 3 → 0 ≤ x2 → x2 ≤ 2 → 1 ≤ x4 → x4 ≤ 20 → 0 ≤ x5 → x5 ≤ 1000 → rd S 158 x1 = x6 → x6 = x2 → 0 ≤ x3 → rd S 159 x1 = x8 → x8 < x7 → (0 ≤ x1 ∧ x1 ≤ 3) → (0 ≤ x2 ∧ x2 ≤ 2) → (0 ≤ x3 ∧ x3 ≤ 2147483647) → (1 ≤ x4 ∧ x4 ≤ 20) → (0 ≤ x5 ∧ x5 ≤ 1000) → (0 ≤ x6 ∧ x6 ≤ 2) → (1 ≤ x7 ∧ x7 ≤ 2147483667) → (0 ≤ x8 ∧ x8 ≤ 60) → x3 + x4 = x7 → i1.toInt = (-12) → Q (some (.int i1), S))
    (k11 : ∀ (x6 : Int) (i1 : Int32), 0 ≤ x1 → x1 ≤ 3 → 0 ≤ x2 → x2 ≤ 2 → 1 ≤ x4 → x4 ≤ 20 → 0 ≤ x5 → x5 ≤ 1000 → rd S 158 x1 = x6 → x6 ≠ x2 → x6 ≠ (-4) → (0 ≤ x1 ∧ x1 ≤ 3) → (0 ≤ x2 ∧ x2 ≤ 2) → (1 ≤ x4 ∧ x4 ≤ 20) → (0 ≤ x5 ∧ x5 ≤ 1000) → (0 ≤ x6 ∧ x6 ≤ 2) → i1.toInt = (-13) → Q (some (.int i1), S))
    (k12 : ∀ (x6 : Int) (i1 : Int32), 0 ≤ x1 → x1 ≤ 3 → 0 ≤ x2 → x2 ≤ 2 → 1 ≤ x4 → x4 ≤ 20 → 0 ≤ x5 → x5 ≤ 1000 → rd S 158 x1 = x6 → x6 ≠ x2 → x6 = (-4) → (0 ≤ x1 ∧ x1 ≤ 3) → (0 ≤ x2 ∧ x2 ≤ 2) → (1 ≤ x4 ∧ x4 ≤ 20) → (0 ≤ x5 ∧ x5 ≤ 1000) → ((-4) ≤ x6 ∧ x6 ≤ (-4)) → i1.toInt = (-11) → Q (some (.int i1), S)) : am_V none d 251 0 L ([]) S Q := by
  refine sg_use sg_mh_m0_g hd hP (sg_xs [0, x1, x2, x3, x4, x5]) ⟨⟨Int.le_refl 0, Int.le_refl 0⟩, b1, b2, b3, b4, b5, trivial⟩ trivial trivial trivial ⟨l0, l1, l2, l3, l4, l5, trivial⟩ trivial ?_
  intro z hz x' L' st' S' hx hP' hW hL' hs' hJ hE' hT' hD'
  have q1 : x' 1 = x1 := hx 1 (by decide)
  subst q1
  have q2 : x' 2 = x2 := hx 2 (by decide)
  subst q2
  have q3 : x' 3 = x3 := hx 3 (by decide)
  subst q3
  have q4 : x' 4 = x4 := hx 4 (by decide)
  subst q4
  have q5 : x' 5 = x5 := hx 5 (by decide)
  subst q5
  have eS : S' = S := hW.1 rfl
  subst eS
  simp only [sg_mh_m0_Z, List.mem_cons, List.not_mem_nil, or_false] at hz
  rcases hz with rfl | rfl | rfl | rfl | rfl | rfl | rfl | rfl | rfl | rfl | rfl | rfl | rfl
  · obtain ⟨f0, -, hσ⟩ := hJ
    obtain ⟨e0, -⟩ := hE'
    intro v hv
    subst hv
    cases v with
    | none => exact hs'.elim
    | some v1 =>
      obtain ⟨⟨i1, rfl, g1⟩, -⟩ := hs'
      exact k0 i1 f0 e0 g1
  · obtain ⟨f0, f1, -, hσ⟩ := hJ
    obtain ⟨e0, -⟩ := hE'
    intro v hv
    subst hv
    cases v with
    | none => exact hs'.elim
    | some v1 =>
      obtain ⟨⟨i1, rfl, g1⟩, -⟩ := hs'
      exact k1 i1 f0 f1 e0 g1
  · obtain ⟨f0, f1, -, f3, -, hσ⟩ := hJ
    obtain ⟨e0, e1, -⟩ := hE'
    intro v hv
    subst hv
    cases v with
    | none => exact hs'.elim
    | some v1 =>
      obtain ⟨⟨i1, rfl, g1⟩, -⟩ := hs'
      exact k2 i1 f0 f1 f3 e0 e1 g1
  · obtain ⟨f0, f1, -, f3, f4, -, hσ⟩ := hJ
    obtain ⟨e0, e1, -⟩ := hE'
    intro v hv
    subst hv
    cases v with
    | none => exact hs'.elim
    | some v1 =>
      obtain ⟨⟨i1, rfl, g1⟩, -⟩ := hs'
      exact k3 i1 f0 f1 f3 f4 e0 e1 g1
  · obtain ⟨f0, f1, -, f3, f4, -, f6, -, hσ⟩ := hJ
    obtain ⟨e0, e1, e2, -⟩ := hE'
    intro v hv
    subst hv
    cases v with
    | none => exact hs'.elim
    | some v1 =>
      obtain ⟨⟨i1, rfl, g1⟩, -⟩ := hs'
      exact k4 i1 f0 f1 f3 f4 f6 e0 e1 e2 g1
  · obtain ⟨f0, f1, -, f3, f4, -, f6, f7, -, hσ⟩ := hJ
    obtain ⟨e0, e1, e2, -⟩ := hE'
    intro v hv
    subst hv
    cases v with
    | none => exact hs'.elim
    | some v1 =>
      obtain ⟨⟨i1, rfl, g1⟩, -⟩ := hs'
      exact k5 i1 f0 f1 f3 f4 f6 f7 e0 e1 e2 g1
  · obtain ⟨f0, f1, -, f3, f4, -, f6, f7, -, f9, -, hσ⟩ := hJ
    obtain ⟨e0, e1, e2, e3, -⟩ := hE'
    intro v hv
    subst hv
    cases v with
    | none => exact hs'.elim
    | some v1 =>
      obtain ⟨⟨i1, rfl, g1⟩, -⟩ := hs'
      exact k6 i1 f0 f1 f3 f4 f6 f7 f9 e0 e1 e2 e3 g1
  · obtain ⟨f0, f1, -, f3, f4, -, f6, f7, -, f9, f10, -, hσ⟩ := hJ
    obtain ⟨e0, e1, e2, e3, -⟩ := hE'
    intro v hv
    subst hv
    cases v with
    | none => exact hs'.elim
    | some v1 =>
      obtain ⟨⟨i1, rfl, g1⟩, -⟩ := hs'
      exact k7 i1 f0 f1 f3 f4 f6 f7 f9 f10 e0 e1 e2 e3 g1
  · obtain ⟨f0, f1, -, f3, f4, -, f6, f7, -, f9, f10, -, f12, f13, f14, hσ⟩ := hJ
    obtain ⟨e0, e1, e2, e3, e4, e5, -⟩ := hE'
    intro v hv
    subst hv
    cases v with
    | none => exact hs'.elim
    | some v1 =>
      obtain ⟨⟨i1, rfl, g1⟩, -⟩ := hs'
      exact k8 (x' 6) i1 f0 f1 f3 f4 f6 f7 f9 f10 f12 f13 f14 e0 e1 e2 e3 e4 e5 g1
  · obtain ⟨f0, f1, -, f3, f4, -, f6, f7, -, f9, f10, -, f12, f13, f14, f15, f16, hσ⟩ := hJ
    obtain ⟨e0, e1, e2, e3, e4, e5, e6, e7, -⟩ := hE'
    obtain ⟨t0, -⟩ := hT'
    obtain ⟨p0, p1, p2, p3, p4, p5, p6, p7, -⟩ := hL'
    obtain rfl := sg_tn hs'
    exact k9 (x' 6) (x' 7) (x' 8) L' f0 f1 f3 f4 f6 f7 f9 f10 f12 f13 f14 f15 f16 e0 e1 e2 e3 e4 e5 e6 e7 t0 p0 p1 p2 p3 p4 p5 p6 p7
  · obtain ⟨f0, f1, -, f3, f4, -, f6, f7, -, f9, f10, -, f12, f13, f14, f15, f16, hσ⟩ := hJ
    obtain ⟨e0, e1, e2, e3, e4, e5, e6, e7, -⟩ := hE'
    obtain ⟨t0, -⟩ := hT'
    intro v hv
    subst hv
    cases v with
    | none => exact hs'.elim
    | some v1 =>
      obtain ⟨⟨i1, rfl, g1⟩, -⟩ := hs'
      exact k10 (x' 6) (x' 7) (x' 8) i1 f0 f1 f3 f4 f6 f7 f9 f10 f12 f13 f14 f15 f16 e0 e1 e2 e3 e4 e5 e6 e7 t0 g1
  · obtain ⟨f0, f1, -, f3, f4, -, f6, f7, -, f9, f10, -, f12, f13, -, f15, hσ⟩ := hJ
    obtain ⟨e0, e1, e2, e3, e4, -⟩ := hE'
    intro v hv
    subst hv
    cases v with
    | none => exact hs'.elim
    | some v1 =>
      obtain ⟨⟨i1, rfl, g1⟩, -⟩ := hs'
      exact k11 (x' 6) i1 f0 f1 f3 f4 f6 f7 f9 f10 f12 f13 f15 e0 e1 e2 e3 e4 g1
  · obtain ⟨f0, f1, -, f3, f4, -, f6, f7, -, f9, f10, -, f12, f13, -, f15, hσ⟩ := hJ
    obtain ⟨e0, e1, e2, e3, e4, -⟩ := hE'
    intro v hv
    subst hv
    cases v with
    | none => exact hs'.elim
    | some v1 =>
      obtain ⟨⟨i1, rfl, g1⟩, -⟩ := hs'
      exact k12 (x' 6) i1 f0 f1 f3 f4 f6 f7 f9 f10 f12 f13 f15 e0 e1 e2 e3 e4 g1
def sg_mh_m1_Z : List sg_z := [(0, [], [.inl (false, (5, .ofNat 1, .ofNat 0))], [(2, 3, (6, .ofNat 1, .ofNat 0), (7, .ofNat 1, .ofNat 0), (0, .ofNat 0, .ofNat 0)), (0, 122, (0, .ofNat 0, .ofNat 0), (7, .ofNat 1, .ofNat 0), (0, .ofNat 0, .ofNat 0))], [(1, [(.ofNat 0, .ofNat 3)]), (2, [(.ofNat 0, .ofNat 60)]), (3, [(.ofNat 1, .ofNat 20)]), (4, [(.ofNat 0, .ofNat 1000)]), (5, [(.ofNat 0, .ofNat 64)]), (6, [(.ofNat 0, .ofNat 8)]), (7, [(.ofNat 0, .ofNat 8)])], [], []),
  (124, [(0, .inr (.inl [122])), (1, .inl (false, (1, .ofNat 1, .ofNat 0))), (3, .inl (false, (2, .ofNat 1, .ofNat 0))), (4, .inl (false, (3, .ofNat 1, .ofNat 0))), (5, .inl (false, (4, .ofNat 1, .ofNat 0))), (6, .inl (false, (5, .ofNat 1, .ofNat 0))), (7, .inl (false, (6, .ofNat 1, .ofNat 0))), (8, .inl (false, (0, .ofNat 0, .ofNat 0)))], [], [(2, 2, (6, .ofNat 1, .ofNat 0), (7, .ofNat 1, .ofNat 0), (0, .ofNat 0, .ofNat 0)), (0, 122, (0, .ofNat 0, .ofNat 0), (7, .ofNat 1, .ofNat 0), (0, .ofNat 0, .ofNat 0))], [(1, [(.ofNat 0, .ofNat 3)]), (2, [(.ofNat 0, .ofNat 60)]), (3, [(.ofNat 1, .ofNat 20)]), (4, [(.ofNat 0, .ofNat 1000)]), (5, [(.ofNat 0, .ofNat 64)]), (6, [(.ofNat 0, .ofNat 7)]), (7, [(.ofNat 1, .ofNat 8)])], [], [])]
set_option maxRecDepth 1000000 in
theorem sg_mh_m1_g : sg_go [] [123] 3000 251 111 0 7 [(0, [(.ofNat 0, .ofNat 0)]), (1, [(.ofNat 0, .ofNat 3)]), (2, [(.ofNat 0, .ofNat 60)]), (3, [(.ofNat 1, .ofNat 20)]), (4, [(.ofNat 0, .ofNat 1000)]), (5, [(.ofNat 0, .ofNat 64)]), (6, [(.ofNat 0, .ofNat 8)])] [] [] [] [(0, .inr (.inl [122])), (1, .inl (false, (1, .ofNat 1, .ofNat 0))), (3, .inl (false, (2, .ofNat 1, .ofNat 0))), (4, .inl (false, (3, .ofNat 1, .ofNat 0))), (5, .inl (false, (4, .ofNat 1, .ofNat 0))), (6, .inl (false, (5, .ofNat 1, .ofNat 0))), (7, .inl (false, (6, .ofNat 1, .ofNat 0)))] [] [] sg_mh_m1_Z = true := by decide +kernel
set_option maxRecDepth 100000 in
theorem sg_mh_m1 {Q : Option Value × am_S → Prop} {d : Nat} {S : am_S} {L : am_L} {x1 x2 x3 x4 x5 x6 : Int} (hd : 0 ≤ d) (hP : ax_P0 none S) (l0 : lc L 0 122) (l1 : li L 1 x1) (l3 : li L 3 x2) (l4 : li L 4 x3) (l5 : li L 5 x4) (l6 : li L 6 x5) (l7 : li L 7 x6) (b1 : (0 ≤ x1 ∧ x1 ≤ 3)) (b2 : (0 ≤ x2 ∧ x2 ≤ 60)) (b3 : (1 ≤ x3 ∧ x3 ≤ 20)) (b4 : (0 ≤ x4 ∧ x4 ≤ 1000)) (b5 : (0 ≤ x5 ∧ x5 ≤ 64)) (b6 : (0 ≤ x6 ∧ x6 ≤ 8))
    (k0 : ∀ (x7 : Int) (i1 : Int32), rd S 122 0 = x7 → x7 ≤ x6 → (0 ≤ x1 ∧ x1 ≤ 3) → (0 ≤ x2 ∧ x2 ≤ 60) → (1 ≤ x3 ∧ x3 ≤ 20) → (0 ≤ x4 ∧ x4 ≤ 1000) → (0 ≤ x5 ∧ x5 ≤ 64) → (0 ≤ x6 ∧ x6 ≤ 8) → (0 ≤ x7 ∧ x7 ≤ 8) → i1.toInt = x5 → Q (some (.int i1), S))
    (k1 : ∀ (x7 : Int) (L' : am_L), rd S 122 0 = x7 → x6 < x7 → (0 ≤ x1 ∧ x1 ≤ 3) → (0 ≤ x2 ∧ x2 ≤ 60) → (1 ≤ x3 ∧ x3 ≤ 20) → (0 ≤ x4 ∧ x4 ≤ 1000) → (0 ≤ x5 ∧ x5 ≤ 64) → (0 ≤ x6 ∧ x6 ≤ 7) → (1 ≤ x7 ∧ x7 ≤ 8) → lc L' 0 122 → li L' 1 x1 → li L' 3 x2 → li L' 4 x3 → li L' 5 x4 → li L' 6 x5 → li L' 7 x6 → li L' 8 0 → am_V none d 251 123 L' ([]) S Q) : am_V none d 251 111 L ([]) S Q := by
  refine sg_use sg_mh_m1_g hd hP (sg_xs [0, x1, x2, x3, x4, x5, x6]) ⟨⟨Int.le_refl 0, Int.le_refl 0⟩, b1, b2, b3, b4, b5, b6, trivial⟩ trivial trivial trivial ⟨l0, l1, l3, l4, l5, l6, l7, trivial⟩ trivial ?_
  intro z hz x' L' st' S' hx hP' hW hL' hs' hJ hE' hT' hD'
  have q1 : x' 1 = x1 := hx 1 (by decide)
  subst q1
  have q2 : x' 2 = x2 := hx 2 (by decide)
  subst q2
  have q3 : x' 3 = x3 := hx 3 (by decide)
  subst q3
  have q4 : x' 4 = x4 := hx 4 (by decide)
  subst q4
  have q5 : x' 5 = x5 := hx 5 (by decide)
  subst q5
  have q6 : x' 6 = x6 := hx 6 (by decide)
  subst q6
  have eS : S' = S := hW.1 rfl
  subst eS
  simp only [sg_mh_m1_Z, List.mem_cons, List.not_mem_nil, or_false] at hz
  rcases hz with rfl | rfl
  · obtain ⟨f0, f1, hσ⟩ := hJ
    obtain ⟨e0, e1, e2, e3, e4, e5, e6, -⟩ := hE'
    intro v hv
    subst hv
    cases v with
    | none => exact hs'.elim
    | some v1 =>
      obtain ⟨⟨i1, rfl, g1⟩, -⟩ := hs'
      exact k0 (x' 7) i1 f0 f1 e0 e1 e2 e3 e4 e5 e6 g1
  · obtain ⟨f0, f1, hσ⟩ := hJ
    obtain ⟨e0, e1, e2, e3, e4, e5, e6, -⟩ := hE'
    obtain ⟨p0, p1, p2, p3, p4, p5, p6, p7, -⟩ := hL'
    obtain rfl := sg_tn hs'
    exact k1 (x' 7) L' f0 f1 e0 e1 e2 e3 e4 e5 e6 p0 p1 p2 p3 p4 p5 p6 p7
def sg_mh_m2_Z : List sg_z := [(112, [(0, .inr (.inl [122])), (1, .inl (false, (1, .ofNat 1, .ofNat 0))), (3, .inl (false, (2, .ofNat 1, .ofNat 0))), (4, .inl (false, (3, .ofNat 1, .ofNat 0))), (5, .inl (false, (4, .ofNat 1, .ofNat 0))), (6, .inl (false, (5, .ofNat 1, .ofNat 0))), (7, .inl (false, (6, .ofNat 1, .ofNat 1))), (8, .inl (false, (7, .ofNat 1, .ofNat 0)))], [], [(2, 3, (7, .ofNat 1, .ofNat 0), (8, .ofNat 1, .ofNat 0), (0, .ofNat 0, .ofNat 0)), (0, 122, (0, .ofNat 0, .ofNat 0), (8, .ofNat 1, .ofNat 0), (0, .ofNat 0, .ofNat 0))], [(1, [(.ofNat 0, .ofNat 3)]), (2, [(.ofNat 0, .ofNat 60)]), (3, [(.ofNat 1, .ofNat 20)]), (4, [(.ofNat 0, .ofNat 1000)]), (5, [(.ofNat 0, .ofNat 64)]), (6, [(.ofNat 0, .ofNat 7)]), (7, [(.ofNat 0, .ofNat 8)]), (8, [(.ofNat 0, .ofNat 8)])], [], []),
  (150, [(0, .inr (.inl [122])), (1, .inl (false, (1, .ofNat 1, .ofNat 0))), (3, .inl (false, (2, .ofNat 1, .ofNat 0))), (4, .inl (false, (3, .ofNat 1, .ofNat 0))), (5, .inl (false, (4, .ofNat 1, .ofNat 0))), (6, .inl (false, (5, .ofNat 1, .ofNat 0))), (7, .inl (false, (6, .ofNat 1, .ofNat 0))), (8, .inl (false, (7, .ofNat 1, .ofNat 0)))], [.inl (false, (4, .ofNat 1, .ofNat 0)), .inl (false, (3, .ofNat 1, .ofNat 0)), .inl (false, (9, .ofNat 1, .ofNat 0)), .inl (false, (7, .ofNat 1, .ofNat 0)), .inl (false, (6, .ofNat 1, .ofNat 0)), .inr (.inl [122]), .inl (false, (5, .ofNat 1, .ofNat 0))], [(2, 2, (7, .ofNat 1, .ofNat 0), (8, .ofNat 1, .ofNat 0), (0, .ofNat 0, .ofNat 0)), (0, 122, (0, .ofNat 0, .ofNat 0), (8, .ofNat 1, .ofNat 0), (0, .ofNat 0, .ofNat 0))], [(1, [(.ofNat 0, .ofNat 3)]), (2, [(.ofNat 0, .ofNat 60)]), (3, [(.ofNat 1, .ofNat 20)]), (4, [(.ofNat 0, .ofNat 1000)]), (5, [(.ofNat 0, .ofNat 64)]), (6, [(.ofNat 0, .ofNat 7)]), (7, [(.ofNat 0, .ofNat 7)]), (8, [(.ofNat 1, .ofNat 8)]), (9, [(.ofNat 0, .ofNat 240)])], [((1, .ofNat 60, .ofNat 0), (2, .ofNat 1, .ofNat 0), (9, .ofNat 1, .ofNat 0))], [])]
set_option maxRecDepth 1000000 in
theorem sg_mh_m2_g : sg_go [] [149, 111] 3000 251 123 0 8 [(0, [(.ofNat 0, .ofNat 0)]), (1, [(.ofNat 0, .ofNat 3)]), (2, [(.ofNat 0, .ofNat 60)]), (3, [(.ofNat 1, .ofNat 20)]), (4, [(.ofNat 0, .ofNat 1000)]), (5, [(.ofNat 0, .ofNat 64)]), (6, [(.ofNat 0, .ofNat 7)]), (7, [(.ofNat 0, .ofNat 8)])] [] [] [] [(0, .inr (.inl [122])), (1, .inl (false, (1, .ofNat 1, .ofNat 0))), (3, .inl (false, (2, .ofNat 1, .ofNat 0))), (4, .inl (false, (3, .ofNat 1, .ofNat 0))), (5, .inl (false, (4, .ofNat 1, .ofNat 0))), (6, .inl (false, (5, .ofNat 1, .ofNat 0))), (7, .inl (false, (6, .ofNat 1, .ofNat 0))), (8, .inl (false, (7, .ofNat 1, .ofNat 0)))] [] [] sg_mh_m2_Z = true := by decide +kernel
set_option maxRecDepth 100000 in
theorem sg_mh_m2 {Q : Option Value × am_S → Prop} {d : Nat} {S : am_S} {L : am_L} {x1 x2 x3 x4 x5 x6 x7 : Int} (hd : 0 ≤ d) (hP : ax_P0 none S) (l0 : lc L 0 122) (l1 : li L 1 x1) (l3 : li L 3 x2) (l4 : li L 4 x3) (l5 : li L 5 x4) (l6 : li L 6 x5) (l7 : li L 7 x6) (l8 : li L 8 x7) (b1 : (0 ≤ x1 ∧ x1 ≤ 3)) (b2 : (0 ≤ x2 ∧ x2 ≤ 60)) (b3 : (1 ≤ x3 ∧ x3 ≤ 20)) (b4 : (0 ≤ x4 ∧ x4 ≤ 1000)) (b5 : (0 ≤ x5 ∧ x5 ≤ 64)) (b6 : (0 ≤ x6 ∧ x6 ≤ 7)) (b7 : (0 ≤ x7 ∧ x7 ≤ 8))
    (k0 : ∀ (x8 : Int) (L' : am_L), rd S 122 0 = x8 → x8 ≤ x7 → (0 ≤ x1 ∧ x1 ≤ 3) → (0 ≤ x2 ∧ x2 ≤ 60) → (1 ≤ x3 ∧ x3 ≤ 20) → (0 ≤ x4 ∧ x4 ≤ 1000) → (0 ≤ x5 ∧ x5 ≤ 64) → (0 ≤ x6 ∧ x6 ≤ 7) → (0 ≤ x7 ∧ x7 ≤ 8) → (0 ≤ x8 ∧ x8 ≤ 8) → lc L' 0 122 → li L' 1 x1 → li L' 3 x2 → li L' 4 x3 → li L' 5 x4 → li L' 6 x5 → li L' 7 (x6 + 1) → li L' 8 x7 → am_V none d 251 111 L' ([]) S Q)
    (k1 : ∀ (x8 x9 : Int) (L' : am_L) (i1 : Int32) (i2 : Int32) (i3 : Int32) (i4 : Int32) (i5 : Int32) (i7 : Int32), rd S 122 0 = x8 → x7 < x8 → (0 ≤ x1 ∧ x1 ≤ 3) → (0 ≤ x2 ∧ x2 ≤ 60) → (1 ≤ x3 ∧ x3 ≤ 20) → (0 ≤ x4 ∧ x4 ≤ 1000) → (0 ≤ x5 ∧ x5 ≤ 64) → (0 ≤ x6 ∧ x6 ≤ 7) → (0 ≤ x7 ∧ x7 ≤ 7) → (1 ≤ x8 ∧ x8 ≤ 8) → (0 ≤ x9 ∧ x9 ≤ 240) → (60 * x1 + 0) + x2 = x9 → lc L' 0 122 → li L' 1 x1 → li L' 3 x2 → li L' 4 x3 → li L' 5 x4 → li L' 6 x5 → li L' 7 x6 → li L' 8 x7 → i1.toInt = x4 → i2.toInt = x3 → i3.toInt = x9 → i4.toInt = x7 → i5.toInt = x6 → i7.toInt = x5 → am_V none d 251 149 L' ((.int i1) :: (.int i2) :: (.int i3) :: (.int i4) :: (.int i5) :: (.ref 122) :: (.int i7) :: []) S Q) : am_V none d 251 123 L ([]) S Q := by
  refine sg_use sg_mh_m2_g hd hP (sg_xs [0, x1, x2, x3, x4, x5, x6, x7]) ⟨⟨Int.le_refl 0, Int.le_refl 0⟩, b1, b2, b3, b4, b5, b6, b7, trivial⟩ trivial trivial trivial ⟨l0, l1, l3, l4, l5, l6, l7, l8, trivial⟩ trivial ?_
  intro z hz x' L' st' S' hx hP' hW hL' hs' hJ hE' hT' hD'
  have q1 : x' 1 = x1 := hx 1 (by decide)
  subst q1
  have q2 : x' 2 = x2 := hx 2 (by decide)
  subst q2
  have q3 : x' 3 = x3 := hx 3 (by decide)
  subst q3
  have q4 : x' 4 = x4 := hx 4 (by decide)
  subst q4
  have q5 : x' 5 = x5 := hx 5 (by decide)
  subst q5
  have q6 : x' 6 = x6 := hx 6 (by decide)
  subst q6
  have q7 : x' 7 = x7 := hx 7 (by decide)
  subst q7
  have eS : S' = S := hW.1 rfl
  subst eS
  simp only [sg_mh_m2_Z, List.mem_cons, List.not_mem_nil, or_false] at hz
  rcases hz with rfl | rfl
  · obtain ⟨f0, f1, hσ⟩ := hJ
    obtain ⟨e0, e1, e2, e3, e4, e5, e6, e7, -⟩ := hE'
    obtain ⟨p0, p1, p2, p3, p4, p5, p6, p7, -⟩ := hL'
    obtain rfl := sg_tn hs'
    exact k0 (x' 8) L' f0 f1 e0 e1 e2 e3 e4 e5 e6 e7 p0 p1 p2 p3 p4 p5 p6 p7
  · obtain ⟨f0, f1, hσ⟩ := hJ
    obtain ⟨e0, e1, e2, e3, e4, e5, e6, e7, e8, -⟩ := hE'
    obtain ⟨t0, -⟩ := hT'
    obtain ⟨p0, p1, p2, p3, p4, p5, p6, p7, -⟩ := hL'
    obtain ⟨v1, r1, rfl, ⟨i1, rfl, g1⟩, hs1⟩ := sg_tc hs'
    obtain ⟨v2, r2, rfl, ⟨i2, rfl, g2⟩, hs2⟩ := sg_tc hs1
    obtain ⟨v3, r3, rfl, ⟨i3, rfl, g3⟩, hs3⟩ := sg_tc hs2
    obtain ⟨v4, r4, rfl, ⟨i4, rfl, g4⟩, hs4⟩ := sg_tc hs3
    obtain ⟨v5, r5, rfl, ⟨i5, rfl, g5⟩, hs5⟩ := sg_tc hs4
    obtain ⟨v6, r6, rfl, rfl, hs6⟩ := sg_tc hs5
    obtain ⟨v7, r7, rfl, ⟨i7, rfl, g7⟩, hs7⟩ := sg_tc hs6
    obtain rfl := sg_tn hs7
    exact k1 (x' 8) (x' 9) L' i1 i2 i3 i4 i5 i7 f0 f1 e0 e1 e2 e3 e4 e5 e6 e7 e8 t0 p0 p1 p2 p3 p4 p5 p6 p7 g1 g2 g3 g4 g5 g7
def sg_mh_m3_Z : List sg_z := [(124, [(0, .inr (.inl [122])), (1, .inl (false, (1, .ofNat 1, .ofNat 0))), (3, .inl (false, (2, .ofNat 1, .ofNat 0))), (4, .inl (false, (3, .ofNat 1, .ofNat 0))), (5, .inl (false, (4, .ofNat 1, .ofNat 0))), (6, .inl (false, (8, .ofNat 1, .ofNat 0))), (7, .inl (false, (5, .ofNat 1, .ofNat 0))), (8, .inl (false, (6, .ofNat 1, .ofNat 1)))], [], [(2, 0, (7, .ofNat 1, .ofNat 0), (0, .ofNat 0, .ofNat 0), (0, .ofNat 0, .ofNat 0))], [(1, [(.ofNat 0, .ofNat 3)]), (2, [(.ofNat 0, .ofNat 60)]), (3, [(.ofNat 1, .ofNat 20)]), (4, [(.ofNat 0, .ofNat 1000)]), (5, [(.ofNat 0, .ofNat 7)]), (6, [(.ofNat 0, .ofNat 7)]), (7, [(.ofNat 0, .ofNat 0)]), (8, [(.ofNat 0, .ofNat 64)])], [], []),
  (124, [(0, .inr (.inl [122])), (1, .inl (false, (1, .ofNat 1, .ofNat 0))), (3, .inl (false, (2, .ofNat 1, .ofNat 0))), (4, .inl (false, (3, .ofNat 1, .ofNat 0))), (5, .inl (false, (4, .ofNat 1, .ofNat 0))), (6, .inl (false, (8, .ofNat 1, .ofNat 1))), (7, .inl (false, (5, .ofNat 1, .ofNat 0))), (8, .inl (false, (6, .ofNat 1, .ofNat 1)))], [], [(2, 1, (7, .ofNat 1, .ofNat 0), (0, .ofNat 0, .ofNat 0), (0, .ofNat 0, .ofNat 0))], [(1, [(.ofNat 0, .ofNat 3)]), (2, [(.ofNat 0, .ofNat 60)]), (3, [(.ofNat 1, .ofNat 20)]), (4, [(.ofNat 0, .ofNat 1000)]), (5, [(.ofNat 0, .ofNat 7)]), (6, [(.ofNat 0, .ofNat 7)]), (7, [(.ofNat 1, .ofNat 1)]), (8, [(.ofNat 0, .ofNat 64)])], [], [])]
set_option maxRecDepth 1000000 in
theorem sg_mh_m3_g : sg_go [] [123] 3000 251 152 0 9 [(0, [(.ofNat 0, .ofNat 0)]), (1, [(.ofNat 0, .ofNat 3)]), (2, [(.ofNat 0, .ofNat 60)]), (3, [(.ofNat 1, .ofNat 20)]), (4, [(.ofNat 0, .ofNat 1000)]), (5, [(.ofNat 0, .ofNat 7)]), (6, [(.ofNat 0, .ofNat 7)]), (7, [(.ofNat 0, .ofNat 1)]), (8, [(.ofNat 0, .ofNat 64)])] [] [] [] [(0, .inr (.inl [122])), (1, .inl (false, (1, .ofNat 1, .ofNat 0))), (3, .inl (false, (2, .ofNat 1, .ofNat 0))), (4, .inl (false, (3, .ofNat 1, .ofNat 0))), (5, .inl (false, (4, .ofNat 1, .ofNat 0))), (7, .inl (false, (5, .ofNat 1, .ofNat 0))), (8, .inl (false, (6, .ofNat 1, .ofNat 0)))] [.inl (false, (7, .ofNat 1, .ofNat 0)), .inl (false, (8, .ofNat 1, .ofNat 0))] [] sg_mh_m3_Z = true := by decide +kernel
set_option maxRecDepth 100000 in
theorem sg_mh_m3 {Q : Option Value × am_S → Prop} {d : Nat} {S : am_S} {L : am_L} {x1 x2 x3 x4 x5 x6 x7 x8 : Int} {i1 : Int32} {i2 : Int32} (hd : 0 ≤ d) (hP : ax_P0 none S) (l0 : lc L 0 122) (l1 : li L 1 x1) (l3 : li L 3 x2) (l4 : li L 4 x3) (l5 : li L 5 x4) (l7 : li L 7 x5) (l8 : li L 8 x6) (b1 : (0 ≤ x1 ∧ x1 ≤ 3)) (b2 : (0 ≤ x2 ∧ x2 ≤ 60)) (b3 : (1 ≤ x3 ∧ x3 ≤ 20)) (b4 : (0 ≤ x4 ∧ x4 ≤ 1000)) (b5 : (0 ≤ x5 ∧ x5 ≤ 7)) (b6 : (0 ≤ x6 ∧ x6 ≤ 7)) (b7 : (0 ≤ x7 ∧ x7 ≤ 1)) (b8 : (0 ≤ x8 ∧ x8 ≤ 64)) (s1 : i1.toInt = x7) (s2 : i2.toInt = x8)
    (k0 : ∀ (L' : am_L), x7 = 0 → (0 ≤ x1 ∧ x1 ≤ 3) → (0 ≤ x2 ∧ x2 ≤ 60) → (1 ≤ x3 ∧ x3 ≤ 20) → (0 ≤ x4 ∧ x4 ≤ 1000) → (0 ≤ x5 ∧ x5 ≤ 7) → (0 ≤ x6 ∧ x6 ≤ 7) → (0 ≤ x7 ∧ x7 ≤ 0) → (0 ≤ x8 ∧ x8 ≤ 64) → lc L' 0 122 → li L' 1 x1 → li L' 3 x2 → li L' 4 x3 → li L' 5 x4 → li L' 6 x8 → li L' 7 x5 → li L' 8 (x6 + 1) → am_V none d 251 123 L' ([]) S Q)
    (k1 : ∀ (L' : am_L), x7 ≠ 0 → (0 ≤ x1 ∧ x1 ≤ 3) → (0 ≤ x2 ∧ x2 ≤ 60) → (1 ≤ x3 ∧ x3 ≤ 20) → (0 ≤ x4 ∧ x4 ≤ 1000) → (0 ≤ x5 ∧ x5 ≤ 7) → (0 ≤ x6 ∧ x6 ≤ 7) → (1 ≤ x7 ∧ x7 ≤ 1) → (0 ≤ x8 ∧ x8 ≤ 64) → lc L' 0 122 → li L' 1 x1 → li L' 3 x2 → li L' 4 x3 → li L' 5 x4 → li L' 6 (x8 + 1) → li L' 7 x5 → li L' 8 (x6 + 1) → am_V none d 251 123 L' ([]) S Q) : am_V none d 251 152 L ((.int i1) :: (.int i2) :: []) S Q := by
  refine sg_use sg_mh_m3_g hd hP (sg_xs [0, x1, x2, x3, x4, x5, x6, x7, x8]) ⟨⟨Int.le_refl 0, Int.le_refl 0⟩, b1, b2, b3, b4, b5, b6, b7, b8, trivial⟩ trivial trivial trivial ⟨l0, l1, l3, l4, l5, l7, l8, trivial⟩ ⟨⟨_, rfl, s1⟩, ⟨_, rfl, s2⟩, trivial⟩ ?_
  intro z hz x' L' st' S' hx hP' hW hL' hs' hJ hE' hT' hD'
  have q1 : x' 1 = x1 := hx 1 (by decide)
  subst q1
  have q2 : x' 2 = x2 := hx 2 (by decide)
  subst q2
  have q3 : x' 3 = x3 := hx 3 (by decide)
  subst q3
  have q4 : x' 4 = x4 := hx 4 (by decide)
  subst q4
  have q5 : x' 5 = x5 := hx 5 (by decide)
  subst q5
  have q6 : x' 6 = x6 := hx 6 (by decide)
  subst q6
  have q7 : x' 7 = x7 := hx 7 (by decide)
  subst q7
  have q8 : x' 8 = x8 := hx 8 (by decide)
  subst q8
  have eS : S' = S := hW.1 rfl
  subst eS
  simp only [sg_mh_m3_Z, List.mem_cons, List.not_mem_nil, or_false] at hz
  rcases hz with rfl | rfl
  · obtain ⟨f0, hσ⟩ := hJ
    obtain ⟨e0, e1, e2, e3, e4, e5, e6, e7, -⟩ := hE'
    obtain ⟨p0, p1, p2, p3, p4, p5, p6, p7, -⟩ := hL'
    obtain rfl := sg_tn hs'
    exact k0 L' f0 e0 e1 e2 e3 e4 e5 e6 e7 p0 p1 p2 p3 p4 p5 p6 p7
  · obtain ⟨f0, hσ⟩ := hJ
    obtain ⟨e0, e1, e2, e3, e4, e5, e6, e7, -⟩ := hE'
    obtain ⟨p0, p1, p2, p3, p4, p5, p6, p7, -⟩ := hL'
    obtain rfl := sg_tn hs'
    exact k1 L' f0 e0 e1 e2 e3 e4 e5 e6 e7 p0 p1 p2 p3 p4 p5 p6 p7
def sg_as_a_Z : List sg_z := [(0, [], [.inl (false, (0, .ofNat 0, .ofNat 0))], [(2, 0, (0, .ofNat 0, .ofNat 0), (0, .ofNat 0, .ofNat 0), (0, .ofNat 0, .ofNat 0)), (2, 0, (6, .ofNat 1, .ofNat 0), (10, .ofNat 1, .ofNat 0), (0, .ofNat 0, .ofNat 0)), (0, 124, (2, .ofNat 1, .ofNat 0), (10, .ofNat 1, .ofNat 0), (0, .ofNat 0, .ofNat 0)), (0, 125, (2, .ofNat 1, .ofNat 0), (8, .ofNat 1, .ofNat 0), (0, .ofNat 0, .ofNat 0)), (2, 5, (7, .ofNat 1, .ofNat 0), (8, .ofNat 1, .ofNat 0), (0, .ofNat 0, .ofNat 0)), (0, 125, (2, .ofNat 1, .ofNat 0), (8, .ofNat 1, .ofNat 0), (0, .ofNat 0, .ofNat 0)), (0, 125, (1, .ofNat 1, .ofNat 0), (7, .ofNat 1, .ofNat 0), (0, .ofNat 0, .ofNat 0)), (0, 124, (1, .ofNat 1, .ofNat 0), (6, .ofNat 1, .ofNat 0), (0, .ofNat 0, .ofNat 0))], [(1, [(.ofNat 0, .ofNat 7)]), (2, [(.ofNat 0, .ofNat 7)]), (3, [(.ofNat 0, .ofNat 240)]), (4, [(.ofNat 1, .ofNat 20)]), (5, [(.ofNat 0, .ofNat 1000)]), (6, [(.ofNat 0, .ofNat 1)]), (7, [(.ofNat 0, .ofNat 9)]), (8, [(.ofNat 0, .ofNat 9)]), (10, [(.ofNat 0, .ofNat 1)])], [], []),
  (0, [], [.inl (false, (0, .ofNat 0, .ofNat 0))], [(2, 0, (0, .ofNat 0, .ofNat 0), (0, .ofNat 0, .ofNat 0), (0, .ofNat 0, .ofNat 0)), (2, 5, (11, .ofNat 1, .ofNat 0), (0, .ofNat 0, .ofNat 0), (0, .ofNat 0, .ofNat 0)), (0, 125, (2, .ofNat 1, .ofNat 0), (8, .ofNat 1, .ofNat 0), (0, .ofNat 0, .ofNat 0)), (2, 0, (9, .ofNat 1, .ofNat 0), (0, .ofNat 0, .ofNat 0), (0, .ofNat 0, .ofNat 0)), (2, 1, (6, .ofNat 1, .ofNat 0), (10, .ofNat 1, .ofNat 0), (0, .ofNat 0, .ofNat 0)), (0, 124, (2, .ofNat 1, .ofNat 0), (10, .ofNat 1, .ofNat 0), (0, .ofNat 0, .ofNat 0)), (0, 125, (2, .ofNat 1, .ofNat 0), (8, .ofNat 1, .ofNat 0), (0, .ofNat 0, .ofNat 0)), (2, 5, (7, .ofNat 1, .ofNat 0), (8, .ofNat 1, .ofNat 0), (0, .ofNat 0, .ofNat 0)), (0, 125, (2, .ofNat 1, .ofNat 0), (8, .ofNat 1, .ofNat 0), (0, .ofNat 0, .ofNat 0)), (0, 125, (1, .ofNat 1, .ofNat 0), (7, .ofNat 1, .ofNat 0), (0, .ofNat 0, .ofNat 0)), (0, 124, (1, .ofNat 1, .ofNat 0), (6, .ofNat 1, .ofNat 0), (0, .ofNat 0, .ofNat 0))], [(1, [(.ofNat 0, .ofNat 7)]), (2, [(.ofNat 0, .ofNat 7)]), (3, [(.ofNat 0, .ofNat 240)]), (4, [(.ofNat 1, .ofNat 20)]), (5, [(.ofNat 0, .ofNat 1000)]), (6, [(.ofNat 0, .ofNat 1)]), (7, [(.ofNat 0, .ofNat 9)]), (8, [(.ofNat 0, .ofNat 9)]), (9, [(.ofNat 0, .ofNat 0)]), (10, [(.ofNat 0, .ofNat 1)]), (11, [(.ofNat 0, .ofNat 0)])], [((7, .ofNat 1, .ofNat 0), (8, .ofNat 1, .ofNat 0), (11, .ofNat 1, .ofNat 0)), ((8, .ofNat 1, .ofNat 0), (7, .negSucc 0, .ofNat 0), (9, .ofNat 1, .ofNat 0))], []),
  (15, [(0, .inr (.inl [122])), (1, .inl (false, (1, .ofNat 1, .ofNat 0))), (2, .inl (false, (2, .ofNat 1, .ofNat 0))), (3, .inl (false, (3, .ofNat 1, .ofNat 0))), (4, .inl (false, (4, .ofNat 1, .ofNat 0))), (5, .inl (false, (5, .ofNat 1, .ofNat 0)))], [.inl (false, (2, .ofNat 1, .ofNat 0)), .inl (false, (1, .ofNat 1, .ofNat 0)), .inr (.inl [122])], [(2, 1, (0, .ofNat 0, .ofNat 1), (0, .ofNat 0, .ofNat 0), (0, .ofNat 0, .ofNat 0)), (2, 4, (11, .ofNat 1, .ofNat 0), (0, .ofNat 0, .ofNat 0), (0, .ofNat 0, .ofNat 0)), (0, 125, (2, .ofNat 1, .ofNat 0), (8, .ofNat 1, .ofNat 0), (0, .ofNat 0, .ofNat 0)), (2, 0, (9, .ofNat 1, .ofNat 0), (0, .ofNat 0, .ofNat 0), (0, .ofNat 0, .ofNat 0)), (2, 1, (6, .ofNat 1, .ofNat 0), (10, .ofNat 1, .ofNat 0), (0, .ofNat 0, .ofNat 0)), (0, 124, (2, .ofNat 1, .ofNat 0), (10, .ofNat 1, .ofNat 0), (0, .ofNat 0, .ofNat 0)), (0, 125, (2, .ofNat 1, .ofNat 0), (8, .ofNat 1, .ofNat 0), (0, .ofNat 0, .ofNat 0)), (2, 5, (7, .ofNat 1, .ofNat 0), (8, .ofNat 1, .ofNat 0), (0, .ofNat 0, .ofNat 0)), (0, 125, (2, .ofNat 1, .ofNat 0), (8, .ofNat 1, .ofNat 0), (0, .ofNat 0, .ofNat 0)), (0, 125, (1, .ofNat 1, .ofNat 0), (7, .ofNat 1, .ofNat 0), (0, .ofNat 0, .ofNat 0)), (0, 124, (1, .ofNat 1, .ofNat 0), (6, .ofNat 1, .ofNat 0), (0, .ofNat 0, .ofNat 0))], [(1, [(.ofNat 0, .ofNat 7)]), (2, [(.ofNat 0, .ofNat 7)]), (3, [(.ofNat 0, .ofNat 240)]), (4, [(.ofNat 1, .ofNat 20)]), (5, [(.ofNat 0, .ofNat 1000)]), (6, [(.ofNat 0, .ofNat 1)]), (7, [(.ofNat 0, .ofNat 9)]), (8, [(.ofNat 0, .ofNat 9)]), (9, [(.ofNat 0, .ofNat 0)]), (10, [(.ofNat 0, .ofNat 1)]), (11, [(.ofNat 1, .ofNat 18)])], [((7, .ofNat 1, .ofNat 0), (8, .ofNat 1, .ofNat 0), (11, .ofNat 1, .ofNat 0)), ((8, .ofNat 1, .ofNat 0), (7, .negSucc 0, .ofNat 0), (9, .ofNat 1, .ofNat 0))], []),
  (0, [], [.inl (false, (0, .ofNat 0, .ofNat 0))], [(2, 0, (0, .ofNat 0, .ofNat 0), (0, .ofNat 0, .ofNat 0), (0, .ofNat 0, .ofNat 0)), (2, 1, (9, .ofNat 1, .ofNat 0), (0, .ofNat 0, .ofNat 2), (0, .ofNat 0, .ofNat 0)), (2, 1, (9, .ofNat 1, .ofNat 0), (0, .ofNat 0, .ofNat 0), (0, .ofNat 0, .ofNat 0)), (2, 1, (6, .ofNat 1, .ofNat 0), (10, .ofNat 1, .ofNat 0), (0, .ofNat 0, .ofNat 0)), (0, 124, (2, .ofNat 1, .ofNat 0), (10, .ofNat 1, .ofNat 0), (0, .ofNat 0, .ofNat 0)), (0, 125, (2, .ofNat 1, .ofNat 0), (8, .ofNat 1, .ofNat 0), (0, .ofNat 0, .ofNat 0)), (2, 5, (7, .ofNat 1, .ofNat 0), (8, .ofNat 1, .ofNat 0), (0, .ofNat 0, .ofNat 0)), (0, 125, (2, .ofNat 1, .ofNat 0), (8, .ofNat 1, .ofNat 0), (0, .ofNat 0, .ofNat 0)), (0, 125, (1, .ofNat 1, .ofNat 0), (7, .ofNat 1, .ofNat 0), (0, .ofNat 0, .ofNat 0)), (0, 124, (1, .ofNat 1, .ofNat 0), (6, .ofNat 1, .ofNat 0), (0, .ofNat 0, .ofNat 0))], [(1, [(.ofNat 0, .ofNat 7)]), (2, [(.ofNat 0, .ofNat 7)]), (3, [(.ofNat 0, .ofNat 240)]), (4, [(.ofNat 1, .ofNat 20)]), (5, [(.ofNat 0, .ofNat 1000)]), (6, [(.ofNat 0, .ofNat 1)]), (7, [(.ofNat 0, .ofNat 9)]), (8, [(.ofNat 0, .ofNat 9)]), (9, [(.negSucc 8, .negSucc 0), (.ofNat 1, .ofNat 1), (.ofNat 3, .ofNat 9)]), (10, [(.ofNat 0, .ofNat 1)])], [((8, .ofNat 1, .ofNat 0), (7, .negSucc 0, .ofNat 0), (9, .ofNat 1, .ofNat 0))], []),
  (0, [], [.inl (false, (0, .ofNat 0, .ofNat 0))], [(2, 0, (0, .ofNat 0, .ofNat 0), (0, .ofNat 0, .ofNat 0), (0, .ofNat 0, .ofNat 0)), (2, 5, (11, .ofNat 1, .ofNat 0), (0, .ofNat 0, .ofNat 0), (0, .ofNat 0, .ofNat 0)), (0, 125, (2, .ofNat 1, .ofNat 0), (8, .ofNat 1, .ofNat 0), (0, .ofNat 0, .ofNat 0)), (2, 0, (9, .ofNat 1, .ofNat 0), (0, .ofNat 0, .ofNat 2), (0, .ofNat 0, .ofNat 0)), (2, 1, (9, .ofNat 1, .ofNat 0), (0, .ofNat 0, .ofNat 0), (0, .ofNat 0, .ofNat 0)), (2, 1, (6, .ofNat 1, .ofNat 0), (10, .ofNat 1, .ofNat 0), (0, .ofNat 0, .ofNat 0)), (0, 124, (2, .ofNat 1, .ofNat 0), (10, .ofNat 1, .ofNat 0), (0, .ofNat 0, .ofNat 0)), (0, 125, (2, .ofNat 1, .ofNat 0), (8, .ofNat 1, .ofNat 0), (0, .ofNat 0, .ofNat 0)), (2, 5, (7, .ofNat 1, .ofNat 0), (8, .ofNat 1, .ofNat 0), (0, .ofNat 0, .ofNat 0)), (0, 125, (2, .ofNat 1, .ofNat 0), (8, .ofNat 1, .ofNat 0), (0, .ofNat 0, .ofNat 0)), (0, 125, (1, .ofNat 1, .ofNat 0), (7, .ofNat 1, .ofNat 0), (0, .ofNat 0, .ofNat 0)), (0, 124, (1, .ofNat 1, .ofNat 0), (6, .ofNat 1, .ofNat 0), (0, .ofNat 0, .ofNat 0))], [(1, [(.ofNat 0, .ofNat 7)]), (2, [(.ofNat 0, .ofNat 7)]), (3, [(.ofNat 0, .ofNat 240)]), (4, [(.ofNat 1, .ofNat 20)]), (5, [(.ofNat 0, .ofNat 1000)]), (6, [(.ofNat 0, .ofNat 1)]), (7, [(.ofNat 0, .ofNat 9)]), (8, [(.ofNat 0, .ofNat 9)]), (9, [(.ofNat 2, .ofNat 2)]), (10, [(.ofNat 0, .ofNat 1)]), (11, [(.ofNat 0, .ofNat 0)])], [((7, .ofNat 1, .ofNat 0), (8, .ofNat 1, .ofNat 0), (11, .ofNat 1, .ofNat 0)), ((8, .ofNat 1, .ofNat 0), (7, .negSucc 0, .ofNat 0), (9, .ofNat 1, .ofNat 0))], []),
  (15, [(0, .inr (.inl [122])), (1, .inl (false, (1, .ofNat 1, .ofNat 0))), (2, .inl (false, (2, .ofNat 1, .ofNat 0))), (3, .inl (false, (3, .ofNat 1, .ofNat 0))), (4, .inl (false, (4, .ofNat 1, .ofNat 0))), (5, .inl (false, (5, .ofNat 1, .ofNat 0)))], [.inl (false, (2, .ofNat 1, .ofNat 0)), .inl (false, (1, .ofNat 1, .ofNat 0)), .inr (.inl [122])], [(2, 1, (0, .ofNat 0, .ofNat 1), (0, .ofNat 0, .ofNat 0), (0, .ofNat 0, .ofNat 0)), (2, 4, (11, .ofNat 1, .ofNat 0), (0, .ofNat 0, .ofNat 0), (0, .ofNat 0, .ofNat 0)), (0, 125, (2, .ofNat 1, .ofNat 0), (8, .ofNat 1, .ofNat 0), (0, .ofNat 0, .ofNat 0)), (2, 0, (9, .ofNat 1, .ofNat 0), (0, .ofNat 0, .ofNat 2), (0, .ofNat 0, .ofNat 0)), (2, 1, (9, .ofNat 1, .ofNat 0), (0, .ofNat 0, .ofNat 0), (0, .ofNat 0, .ofNat 0)), (2, 1, (6, .ofNat 1, .ofNat 0), (10, .ofNat 1, .ofNat 0), (0, .ofNat 0, .ofNat 0)), (0, 124, (2, .ofNat 1, .ofNat 0), (10, .ofNat 1, .ofNat 0), (0, .ofNat 0, .ofNat 0)), (0, 125, (2, .ofNat 1, .ofNat 0), (8, .ofNat 1, .ofNat 0), (0, .ofNat 0, .ofNat 0)), (2, 5, (7, .ofNat 1, .ofNat 0), (8, .ofNat 1, .ofNat 0), (0, .ofNat 0, .ofNat 0)), (0, 125, (2, .ofNat 1, .ofNat 0), (8, .ofNat 1, .ofNat 0), (0, .ofNat 0, .ofNat 0)), (0, 125, (1, .ofNat 1, .ofNat 0), (7, .ofNat 1, .ofNat 0), (0, .ofNat 0, .ofNat 0)), (0, 124, (1, .ofNat 1, .ofNat 0), (6, .ofNat 1, .ofNat 0), (0, .ofNat 0, .ofNat 0))], [(1, [(.ofNat 0, .ofNat 7)]), (2, [(.ofNat 0, .ofNat 7)]), (3, [(.ofNat 0, .ofNat 240)]), (4, [(.ofNat 1, .ofNat 20)]), (5, [(.ofNat 0, .ofNat 1000)]), (6, [(.ofNat 0, .ofNat 1)]), (7, [(.ofNat 0, .ofNat 9)]), (8, [(.ofNat 0, .ofNat 9)]), (9, [(.ofNat 2, .ofNat 2)]), (10, [(.ofNat 0, .ofNat 1)]), (11, [(.ofNat 1, .ofNat 18)])], [((7, .ofNat 1, .ofNat 0), (8, .ofNat 1, .ofNat 0), (11, .ofNat 1, .ofNat 0)), ((8, .ofNat 1, .ofNat 0), (7, .negSucc 0, .ofNat 0), (9, .ofNat 1, .ofNat 0))], []),
  (0, [], [.inl (false, (0, .ofNat 0, .ofNat 0))], [(2, 0, (0, .ofNat 0, .ofNat 0), (0, .ofNat 0, .ofNat 0), (0, .ofNat 0, .ofNat 0)), (2, 0, (6, .ofNat 1, .ofNat 0), (10, .ofNat 1, .ofNat 0), (0, .ofNat 0, .ofNat 0)), (0, 124, (2, .ofNat 1, .ofNat 0), (10, .ofNat 1, .ofNat 0), (0, .ofNat 0, .ofNat 0)), (0, 125, (2, .ofNat 1, .ofNat 0), (8, .ofNat 1, .ofNat 0), (0, .ofNat 0, .ofNat 0)), (2, 4, (7, .ofNat 1, .ofNat 0), (8, .ofNat 1, .ofNat 0), (0, .ofNat 0, .ofNat 0)), (0, 125, (2, .ofNat 1, .ofNat 0), (8, .ofNat 1, .ofNat 0), (0, .ofNat 0, .ofNat 0)), (0, 125, (1, .ofNat 1, .ofNat 0), (7, .ofNat 1, .ofNat 0), (0, .ofNat 0, .ofNat 0)), (0, 124, (1, .ofNat 1, .ofNat 0), (6, .ofNat 1, .ofNat 0), (0, .ofNat 0, .ofNat 0))], [(1, [(.ofNat 0, .ofNat 7)]), (2, [(.ofNat 0, .ofNat 7)]), (3, [(.ofNat 0, .ofNat 240)]), (4, [(.ofNat 1, .ofNat 20)]), (5, [(.ofNat 0, .ofNat 1000)]), (6, [(.ofNat 0, .ofNat 1)]), (7, [(.ofNat 1, .ofNat 9)]), (8, [(.ofNat 0, .ofNat 8)]), (10, [(.ofNat 0, .ofNat 1)])], [], []),
  (15, [(0, .inr (.inl [122])), (1, .inl (false, (1, .ofNat 1, .ofNat 0))), (2, .inl (false, (2, .ofNat 1, .ofNat 0))), (3, .inl (false, (3, .ofNat 1, .ofNat 0))), (4, .inl (false, (4, .ofNat 1, .ofNat 0))), (5, .inl (false, (5, .ofNat 1, .ofNat 0)))], [.inl (false, (2, .ofNat 1, .ofNat 0)), .inl (false, (1, .ofNat 1, .ofNat 0)), .inr (.inl [122])], [(2, 1, (0, .ofNat 0, .ofNat 1), (0, .ofNat 0, .ofNat 0), (0, .ofNat 0, .ofNat 0)), (2, 4, (11, .ofNat 1, .ofNat 0), (0, .ofNat 0, .ofNat 0), (0, .ofNat 0, .ofNat 0)), (0, 125, (2, .ofNat 1, .ofNat 0), (8, .ofNat 1, .ofNat 0), (0, .ofNat 0, .ofNat 0)), (2, 0, (9, .ofNat 1, .ofNat 0), (0, .ofNat 0, .ofNat 0), (0, .ofNat 0, .ofNat 0)), (2, 1, (6, .ofNat 1, .ofNat 0), (10, .ofNat 1, .ofNat 0), (0, .ofNat 0, .ofNat 0)), (0, 124, (2, .ofNat 1, .ofNat 0), (10, .ofNat 1, .ofNat 0), (0, .ofNat 0, .ofNat 0)), (0, 125, (2, .ofNat 1, .ofNat 0), (8, .ofNat 1, .ofNat 0), (0, .ofNat 0, .ofNat 0)), (2, 4, (7, .ofNat 1, .ofNat 0), (8, .ofNat 1, .ofNat 0), (0, .ofNat 0, .ofNat 0)), (0, 125, (2, .ofNat 1, .ofNat 0), (8, .ofNat 1, .ofNat 0), (0, .ofNat 0, .ofNat 0)), (0, 125, (1, .ofNat 1, .ofNat 0), (7, .ofNat 1, .ofNat 0), (0, .ofNat 0, .ofNat 0)), (0, 124, (1, .ofNat 1, .ofNat 0), (6, .ofNat 1, .ofNat 0), (0, .ofNat 0, .ofNat 0))], [(1, [(.ofNat 0, .ofNat 7)]), (2, [(.ofNat 0, .ofNat 7)]), (3, [(.ofNat 0, .ofNat 240)]), (4, [(.ofNat 1, .ofNat 20)]), (5, [(.ofNat 0, .ofNat 1000)]), (6, [(.ofNat 0, .ofNat 1)]), (7, [(.ofNat 1, .ofNat 9)]), (8, [(.ofNat 0, .ofNat 8)]), (9, [(.ofNat 0, .ofNat 0)]), (10, [(.ofNat 0, .ofNat 1)]), (11, [(.ofNat 1, .ofNat 17)])], [((7, .ofNat 1, .ofNat 0), (8, .ofNat 1, .ofNat 0), (11, .ofNat 1, .ofNat 0)), ((7, .ofNat 1, .ofNat 0), (8, .negSucc 0, .ofNat 0), (9, .ofNat 1, .ofNat 0))], []),
  (0, [], [.inl (false, (0, .ofNat 0, .ofNat 0))], [(2, 0, (0, .ofNat 0, .ofNat 0), (0, .ofNat 0, .ofNat 0), (0, .ofNat 0, .ofNat 0)), (2, 1, (9, .ofNat 1, .ofNat 0), (0, .ofNat 0, .ofNat 2), (0, .ofNat 0, .ofNat 0)), (2, 1, (9, .ofNat 1, .ofNat 0), (0, .ofNat 0, .ofNat 0), (0, .ofNat 0, .ofNat 0)), (2, 1, (6, .ofNat 1, .ofNat 0), (10, .ofNat 1, .ofNat 0), (0, .ofNat 0, .ofNat 0)), (0, 124, (2, .ofNat 1, .ofNat 0), (10, .ofNat 1, .ofNat 0), (0, .ofNat 0, .ofNat 0)), (0, 125, (2, .ofNat 1, .ofNat 0), (8, .ofNat 1, .ofNat 0), (0, .ofNat 0, .ofNat 0)), (2, 4, (7, .ofNat 1, .ofNat 0), (8, .ofNat 1, .ofNat 0), (0, .ofNat 0, .ofNat 0)), (0, 125, (2, .ofNat 1, .ofNat 0), (8, .ofNat 1, .ofNat 0), (0, .ofNat 0, .ofNat 0)), (0, 125, (1, .ofNat 1, .ofNat 0), (7, .ofNat 1, .ofNat 0), (0, .ofNat 0, .ofNat 0)), (0, 124, (1, .ofNat 1, .ofNat 0), (6, .ofNat 1, .ofNat 0), (0, .ofNat 0, .ofNat 0))], [(1, [(.ofNat 0, .ofNat 7)]), (2, [(.ofNat 0, .ofNat 7)]), (3, [(.ofNat 0, .ofNat 240)]), (4, [(.ofNat 1, .ofNat 20)]), (5, [(.ofNat 0, .ofNat 1000)]), (6, [(.ofNat 0, .ofNat 1)]), (7, [(.ofNat 1, .ofNat 9)]), (8, [(.ofNat 0, .ofNat 8)]), (9, [(.negSucc 6, .negSucc 0), (.ofNat 1, .ofNat 1), (.ofNat 3, .ofNat 9)]), (10, [(.ofNat 0, .ofNat 1)])], [((7, .ofNat 1, .ofNat 0), (8, .negSucc 0, .ofNat 0), (9, .ofNat 1, .ofNat 0))], []),
  (15, [(0, .inr (.inl [122])), (1, .inl (false, (1, .ofNat 1, .ofNat 0))), (2, .inl (false, (2, .ofNat 1, .ofNat 0))), (3, .inl (false, (3, .ofNat 1, .ofNat 0))), (4, .inl (false, (4, .ofNat 1, .ofNat 0))), (5, .inl (false, (5, .ofNat 1, .ofNat 0)))], [.inl (false, (2, .ofNat 1, .ofNat 0)), .inl (false, (1, .ofNat 1, .ofNat 0)), .inr (.inl [122])], [(2, 1, (0, .ofNat 0, .ofNat 1), (0, .ofNat 0, .ofNat 0), (0, .ofNat 0, .ofNat 0)), (2, 4, (11, .ofNat 1, .ofNat 0), (0, .ofNat 0, .ofNat 0), (0, .ofNat 0, .ofNat 0)), (0, 125, (2, .ofNat 1, .ofNat 0), (8, .ofNat 1, .ofNat 0), (0, .ofNat 0, .ofNat 0)), (2, 0, (9, .ofNat 1, .ofNat 0), (0, .ofNat 0, .ofNat 2), (0, .ofNat 0, .ofNat 0)), (2, 1, (9, .ofNat 1, .ofNat 0), (0, .ofNat 0, .ofNat 0), (0, .ofNat 0, .ofNat 0)), (2, 1, (6, .ofNat 1, .ofNat 0), (10, .ofNat 1, .ofNat 0), (0, .ofNat 0, .ofNat 0)), (0, 124, (2, .ofNat 1, .ofNat 0), (10, .ofNat 1, .ofNat 0), (0, .ofNat 0, .ofNat 0)), (0, 125, (2, .ofNat 1, .ofNat 0), (8, .ofNat 1, .ofNat 0), (0, .ofNat 0, .ofNat 0)), (2, 4, (7, .ofNat 1, .ofNat 0), (8, .ofNat 1, .ofNat 0), (0, .ofNat 0, .ofNat 0)), (0, 125, (2, .ofNat 1, .ofNat 0), (8, .ofNat 1, .ofNat 0), (0, .ofNat 0, .ofNat 0)), (0, 125, (1, .ofNat 1, .ofNat 0), (7, .ofNat 1, .ofNat 0), (0, .ofNat 0, .ofNat 0)), (0, 124, (1, .ofNat 1, .ofNat 0), (6, .ofNat 1, .ofNat 0), (0, .ofNat 0, .ofNat 0))], [(1, [(.ofNat 0, .ofNat 7)]), (2, [(.ofNat 0, .ofNat 7)]), (3, [(.ofNat 0, .ofNat 240)]), (4, [(.ofNat 1, .ofNat 20)]), (5, [(.ofNat 0, .ofNat 1000)]), (6, [(.ofNat 0, .ofNat 1)]), (7, [(.ofNat 1, .ofNat 9)]), (8, [(.ofNat 0, .ofNat 8)]), (9, [(.ofNat 2, .ofNat 2)]), (10, [(.ofNat 0, .ofNat 1)]), (11, [(.ofNat 1, .ofNat 17)])], [((7, .ofNat 1, .ofNat 0), (8, .ofNat 1, .ofNat 0), (11, .ofNat 1, .ofNat 0)), ((7, .ofNat 1, .ofNat 0), (8, .negSucc 0, .ofNat 0), (9, .ofNat 1, .ofNat 0))], [])]
set_option maxRecDepth 1000000 in
theorem sg_as_a_g : sg_go [] [14] 3000 250 0 2 6 [(0, [(.ofNat 0, .ofNat 0)]), (1, [(.ofNat 0, .ofNat 7)]), (2, [(.ofNat 0, .ofNat 7)]), (3, [(.ofNat 0, .ofNat 240)]), (4, [(.ofNat 1, .ofNat 20)]), (5, [(.ofNat 0, .ofNat 1000)])] [] [] [] [(0, .inr (.inl [122])), (1, .inl (false, (1, .ofNat 1, .ofNat 0))), (2, .inl (false, (2, .ofNat 1, .ofNat 0))), (3, .inl (false, (3, .ofNat 1, .ofNat 0))), (4, .inl (false, (4, .ofNat 1, .ofNat 0))), (5, .inl (false, (5, .ofNat 1, .ofNat 0)))] [] [] sg_as_a_Z = true := by decide +kernel
set_option maxRecDepth 100000 in
theorem sg_as_a {Q : Option Value × am_S → Prop} {d : Nat} {S : am_S} {L : am_L} {x1 x2 x3 x4 x5 : Int} (hd : 2 ≤ d) (hP : ax_P0 none S) (l0 : lc L 0 122) (l1 : li L 1 x1) (l2 : li L 2 x2) (l3 : li L 3 x3) (l4 : li L 4 x4) (l5 : li L 5 x5) (b1 : (0 ≤ x1 ∧ x1 ≤ 7)) (b2 : (0 ≤ x2 ∧ x2 ≤ 7)) (b3 : (0 ≤ x3 ∧ x3 ≤ 240)) (b4 : (1 ≤ x4 ∧ x4 ≤ 20)) (b5 : (0 ≤ x5 ∧ x5 ≤ 1000))
    (k0 : ∀ (x6 x7 x8 x10 : Int) (i1 : Int32), rd S 124 x1 = x6 → rd S 125 x1 = x7 → rd S 125 x2 = x8 → x7 ≤ x8 → rd S 124 x2 = x10 → x6 = x10 → (0 ≤ x1 ∧ x1 ≤ 7) → (0 ≤ x2 ∧ x2 ≤ 7) → (0 ≤ x3 ∧ x3 ≤ 240) → (1 ≤ x4 ∧ x4 ≤ 20) → (0 ≤ x5 ∧ x5 ≤ 1000) → (0 ≤ x6 ∧ x6 ≤ 1) → (0 ≤ x7 ∧ x7 ≤ 9) → (0 ≤ x8 ∧ x8 ≤ 9) → (0 ≤ x10 ∧ x10 ≤ 1) → i1.toInt = 0 → Q (some (.int i1), S))
    (k1 : ∀ (x6 x7 x8 x9 x10 x11 : Int) (i1 : Int32), rd S 124 x1 = x6 → rd S 125 x1 = x7 → rd S 125 x2 = x8 → x7 ≤ x8 → rd S 124 x2 = x10 → x6 ≠ x10 → x9 = 0 → x11 ≤ 0 → (0 ≤ x1 ∧ x1 ≤ 7) → (0 ≤ x2 ∧ x2 ≤ 7) → (0 ≤ x3 ∧ x3 ≤ 240) → (1 ≤ x4 ∧ x4 ≤ 20) → (0 ≤ x5 ∧ x5 ≤ 1000) → (0 ≤ x6 ∧ x6 ≤ 1) → (0 ≤ x7 ∧ x7 ≤ 9) → (0 ≤ x8 ∧ x8 ≤ 9) → (0 ≤ x9 ∧ x9 ≤ 0) → (0 ≤ x10 ∧ x10 ≤ 1) → (0 ≤ x11 ∧ x11 ≤ 0) → x7 + x8 = x11 → x8 + ((-1) * x7 + 0) = x9 → i1.toInt = 0 → Q (some (.int i1), S))
    (k2 : ∀ (x6 x7 x8 x9 x10 x11 : Int) (L' : am_L) (i1 : Int32) (i2 : Int32), rd S 124 x1 = x6 → rd S 125 x1 = x7 → rd S 125 x2 = x8 → x7 ≤ x8 → rd S 124 x2 = x10 → x6 ≠ x10 → x9 = 0 → 0 < x11 → (0 ≤ x1 ∧ x1 ≤ 7) → (0 ≤ x2 ∧ x2 ≤ 7) → (0 ≤ x3 ∧ x3 ≤ 240) → (1 ≤ x4 ∧ x4 ≤ 20) → (0 ≤ x5 ∧ x5 ≤ 1000) → (0 ≤ x6 ∧ x6 ≤ 1) → (0 ≤ x7 ∧ x7 ≤ 9) → (0 ≤ x8 ∧ x8 ≤ 9) → (0 ≤ x9 ∧ x9 ≤ 0) → (0 ≤ x10 ∧ x10 ≤ 1) → (1 ≤ x11 ∧ x11 ≤ 18) → x7 + x8 = x11 → x8 + ((-1) * x7 + 0) = x9 → lc L' 0 122 → li L' 1 x1 → li L' 2 x2 → li L' 3 x3 → li L' 4 x4 → li L' 5 x5 → i1.toInt = x2 → i2.toInt = x1 → am_V none d 250 14 L' ((.int i1) :: (.int i2) :: (.ref 122) :: []) S Q)
    (k3 : ∀ (x6 x7 x8 x9 x10 : Int) (i1 : Int32), rd S 124 x1 = x6 → rd S 125 x1 = x7 → rd S 125 x2 = x8 → x7 ≤ x8 → rd S 124 x2 = x10 → x6 ≠ x10 → x9 ≠ 0 → x9 ≠ 2 → (0 ≤ x1 ∧ x1 ≤ 7) → (0 ≤ x2 ∧ x2 ≤ 7) → (0 ≤ x3 ∧ x3 ≤ 240) → (1 ≤ x4 ∧ x4 ≤ 20) → (0 ≤ x5 ∧ x5 ≤ 1000) → (0 ≤ x6 ∧ x6 ≤ 1) → (0 ≤ x7 ∧ x7 ≤ 9) → (0 ≤ x8 ∧ x8 ≤ 9) → ((-9) ≤ x9 ∧ x9 ≤ (-1)) ∨ (1 ≤ x9 ∧ x9 ≤ 1) ∨ (3 ≤ x9 ∧ x9 ≤ 9) → (0 ≤ x10 ∧ x10 ≤ 1) → x8 + ((-1) * x7 + 0) = x9 → i1.toInt = 0 → Q (some (.int i1), S))
    (k4 : ∀ (x6 x7 x8 x9 x10 x11 : Int) (i1 : Int32), rd S 124 x1 = x6 → rd S 125 x1 = x7 → rd S 125 x2 = x8 → x7 ≤ x8 → rd S 124 x2 = x10 → x6 ≠ x10 → x9 ≠ 0 → x9 = 2 → x11 ≤ 0 → (0 ≤ x1 ∧ x1 ≤ 7) → (0 ≤ x2 ∧ x2 ≤ 7) → (0 ≤ x3 ∧ x3 ≤ 240) → (1 ≤ x4 ∧ x4 ≤ 20) → (0 ≤ x5 ∧ x5 ≤ 1000) → (0 ≤ x6 ∧ x6 ≤ 1) → (0 ≤ x7 ∧ x7 ≤ 9) → (0 ≤ x8 ∧ x8 ≤ 9) → (2 ≤ x9 ∧ x9 ≤ 2) → (0 ≤ x10 ∧ x10 ≤ 1) → (0 ≤ x11 ∧ x11 ≤ 0) → x7 + x8 = x11 → x8 + ((-1) * x7 + 0) = x9 → i1.toInt = 0 → Q (some (.int i1), S))
    (k5 : ∀ (x6 x7 x8 x9 x10 x11 : Int) (L' : am_L) (i1 : Int32) (i2 : Int32), rd S 124 x1 = x6 → rd S 125 x1 = x7 → rd S 125 x2 = x8 → x7 ≤ x8 → rd S 124 x2 = x10 → x6 ≠ x10 → x9 ≠ 0 → x9 = 2 → 0 < x11 → (0 ≤ x1 ∧ x1 ≤ 7) → (0 ≤ x2 ∧ x2 ≤ 7) → (0 ≤ x3 ∧ x3 ≤ 240) → (1 ≤ x4 ∧ x4 ≤ 20) → (0 ≤ x5 ∧ x5 ≤ 1000) → (0 ≤ x6 ∧ x6 ≤ 1) → (0 ≤ x7 ∧ x7 ≤ 9) → (0 ≤ x8 ∧ x8 ≤ 9) → (2 ≤ x9 ∧ x9 ≤ 2) → (0 ≤ x10 ∧ x10 ≤ 1) → (1 ≤ x11 ∧ x11 ≤ 18) → x7 + x8 = x11 → x8 + ((-1) * x7 + 0) = x9 → lc L' 0 122 → li L' 1 x1 → li L' 2 x2 → li L' 3 x3 → li L' 4 x4 → li L' 5 x5 → i1.toInt = x2 → i2.toInt = x1 → am_V none d 250 14 L' ((.int i1) :: (.int i2) :: (.ref 122) :: []) S Q)
    (k6 : ∀ (x6 x7 x8 x10 : Int) (i1 : Int32), rd S 124 x1 = x6 → rd S 125 x1 = x7 → rd S 125 x2 = x8 → x8 < x7 → rd S 124 x2 = x10 → x6 = x10 → (0 ≤ x1 ∧ x1 ≤ 7) → (0 ≤ x2 ∧ x2 ≤ 7) → (0 ≤ x3 ∧ x3 ≤ 240) → (1 ≤ x4 ∧ x4 ≤ 20) → (0 ≤ x5 ∧ x5 ≤ 1000) → (0 ≤ x6 ∧ x6 ≤ 1) → (1 ≤ x7 ∧ x7 ≤ 9) → (0 ≤ x8 ∧ x8 ≤ 8) → (0 ≤ x10 ∧ x10 ≤ 1) → i1.toInt = 0 → Q (some (.int i1), S))
    (k7 : ∀ (x6 x7 x8 x9 x10 x11 : Int) (L' : am_L) (i1 : Int32) (i2 : Int32), rd S 124 x1 = x6 → rd S 125 x1 = x7 → rd S 125 x2 = x8 → x8 < x7 → rd S 124 x2 = x10 → x6 ≠ x10 → x9 = 0 → 0 < x11 → (0 ≤ x1 ∧ x1 ≤ 7) → (0 ≤ x2 ∧ x2 ≤ 7) → (0 ≤ x3 ∧ x3 ≤ 240) → (1 ≤ x4 ∧ x4 ≤ 20) → (0 ≤ x5 ∧ x5 ≤ 1000) → (0 ≤ x6 ∧ x6 ≤ 1) → (1 ≤ x7 ∧ x7 ≤ 9) → (0 ≤ x8 ∧ x8 ≤ 8) → (0 ≤ x9 ∧ x9 ≤ 0) → (0 ≤ x10 ∧ x10 ≤ 1) → (1 ≤ x11 ∧ x11 ≤ 17) → x7 + x8 = x11 → x7 + ((-1) * x8 + 0) = x9 → lc L' 0 122 → li L' 1 x1 → li L' 2 x2 → li L' 3 x3 → li L' 4 x4 → li L' 5 x5 → i1.toInt = x2 → i2.toInt = x1 → am_V none d 250 14 L' ((.int i1) :: (.int i2) :: (.ref 122) :: []) S Q)
    (k8 : ∀ (x6 x7 x8 x9 x10 : Int) (i1 : Int32), rd S 124 x1 = x6 → rd S 125 x1 = x7 → rd S 125 x2 = x8 → x8 < x7 → rd S 124 x2 = x10 → x6 ≠ x10 → x9 ≠ 0 → x9 ≠ 2 → (0 ≤ x1 ∧ x1 ≤ 7) → (0 ≤ x2 ∧ x2 ≤ 7) → (0 ≤ x3 ∧ x3 ≤ 240) → (1 ≤ x4 ∧ x4 ≤ 20) → (0 ≤ x5 ∧ x5 ≤ 1000) → (0 ≤ x6 ∧ x6 ≤ 1) → (1 ≤ x7 ∧ x7 ≤ 9) → (0 ≤ x8 ∧ x8 ≤ 8) → ((-7) ≤ x9 ∧ x9 ≤ (-1)) ∨ (1 ≤ x9 ∧ x9 ≤ 1) ∨ (3 ≤ x9 ∧ x9 ≤ 9) → (0 ≤ x10 ∧ x10 ≤ 1) → x7 + ((-1) * x8 + 0) = x9 → i1.toInt = 0 → Q (some (.int i1), S))
    (k9 : ∀ (x6 x7 x8 x9 x10 x11 : Int) (L' : am_L) (i1 : Int32) (i2 : Int32), rd S 124 x1 = x6 → rd S 125 x1 = x7 → rd S 125 x2 = x8 → x8 < x7 → rd S 124 x2 = x10 → x6 ≠ x10 → x9 ≠ 0 → x9 = 2 → 0 < x11 → (0 ≤ x1 ∧ x1 ≤ 7) → (0 ≤ x2 ∧ x2 ≤ 7) → (0 ≤ x3 ∧ x3 ≤ 240) → (1 ≤ x4 ∧ x4 ≤ 20) → (0 ≤ x5 ∧ x5 ≤ 1000) → (0 ≤ x6 ∧ x6 ≤ 1) → (1 ≤ x7 ∧ x7 ≤ 9) → (0 ≤ x8 ∧ x8 ≤ 8) → (2 ≤ x9 ∧ x9 ≤ 2) → (0 ≤ x10 ∧ x10 ≤ 1) → (1 ≤ x11 ∧ x11 ≤ 17) → x7 + x8 = x11 → x7 + ((-1) * x8 + 0) = x9 → lc L' 0 122 → li L' 1 x1 → li L' 2 x2 → li L' 3 x3 → li L' 4 x4 → li L' 5 x5 → i1.toInt = x2 → i2.toInt = x1 → am_V none d 250 14 L' ((.int i1) :: (.int i2) :: (.ref 122) :: []) S Q) : am_V none d 250 0 L ([]) S Q := by
  refine sg_use sg_as_a_g hd hP (sg_xs [0, x1, x2, x3, x4, x5]) ⟨⟨Int.le_refl 0, Int.le_refl 0⟩, b1, b2, b3, b4, b5, trivial⟩ trivial trivial trivial ⟨l0, l1, l2, l3, l4, l5, trivial⟩ trivial ?_
  intro z hz x' L' st' S' hx hP' hW hL' hs' hJ hE' hT' hD'
  have q1 : x' 1 = x1 := hx 1 (by decide)
  subst q1
  have q2 : x' 2 = x2 := hx 2 (by decide)
  subst q2
  have q3 : x' 3 = x3 := hx 3 (by decide)
  subst q3
  have q4 : x' 4 = x4 := hx 4 (by decide)
  subst q4
  have q5 : x' 5 = x5 := hx 5 (by decide)
  subst q5
  have eS : S' = S := hW.1 rfl
  subst eS
  simp only [sg_as_a_Z, List.mem_cons, List.not_mem_nil, or_false] at hz
  rcases hz with rfl | rfl | rfl | rfl | rfl | rfl | rfl | rfl | rfl | rfl
  · obtain ⟨f0, f1, f2, f3, -, f5, f6, -, hσ⟩ := hJ
    obtain ⟨e0, e1, e2, e3, e4, e5, e6, e7, e8, -⟩ := hE'
    intro v hv
    subst hv
    cases v with
    | none => exact hs'.elim
    | some v1 =>
      obtain ⟨⟨i1, rfl, g1⟩, -⟩ := hs'
      exact k0 (x' 6) (x' 7) (x' 8) (x' 10) i1 f0 f1 f2 f3 f5 f6 e0 e1 e2 e3 e4 e5 e6 e7 e8 g1
  · obtain ⟨f0, f1, f2, f3, -, f5, f6, f7, -, f9, -, hσ⟩ := hJ
    obtain ⟨e0, e1, e2, e3, e4, e5, e6, e7, e8, e9, e10, -⟩ := hE'
    obtain ⟨t0, t1, -⟩ := hT'
    intro v hv
    subst hv
    cases v with
    | none => exact hs'.elim
    | some v1 =>
      obtain ⟨⟨i1, rfl, g1⟩, -⟩ := hs'
      exact k1 (x' 6) (x' 7) (x' 8) (x' 9) (x' 10) (x' 11) i1 f0 f1 f2 f3 f5 f6 f7 f9 e0 e1 e2 e3 e4 e5 e6 e7 e8 e9 e10 t0 t1 g1
  · obtain ⟨f0, f1, f2, f3, -, f5, f6, f7, -, f9, -, hσ⟩ := hJ
    obtain ⟨e0, e1, e2, e3, e4, e5, e6, e7, e8, e9, e10, -⟩ := hE'
    obtain ⟨t0, t1, -⟩ := hT'
    obtain ⟨p0, p1, p2, p3, p4, p5, -⟩ := hL'
    obtain ⟨v1, r1, rfl, ⟨i1, rfl, g1⟩, hs1⟩ := sg_tc hs'
    obtain ⟨v2, r2, rfl, ⟨i2, rfl, g2⟩, hs2⟩ := sg_tc hs1
    obtain ⟨v3, r3, rfl, rfl, hs3⟩ := sg_tc hs2
    obtain rfl := sg_tn hs3
    exact k2 (x' 6) (x' 7) (x' 8) (x' 9) (x' 10) (x' 11) L' i1 i2 f0 f1 f2 f3 f5 f6 f7 f9 e0 e1 e2 e3 e4 e5 e6 e7 e8 e9 e10 t0 t1 p0 p1 p2 p3 p4 p5 g1 g2
  · obtain ⟨f0, f1, f2, f3, -, f5, f6, f7, f8, -, hσ⟩ := hJ
    obtain ⟨e0, e1, e2, e3, e4, e5, e6, e7, e8, e9, -⟩ := hE'
    obtain ⟨t0, -⟩ := hT'
    intro v hv
    subst hv
    cases v with
    | none => exact hs'.elim
    | some v1 =>
      obtain ⟨⟨i1, rfl, g1⟩, -⟩ := hs'
      exact k3 (x' 6) (x' 7) (x' 8) (x' 9) (x' 10) i1 f0 f1 f2 f3 f5 f6 f7 f8 e0 e1 e2 e3 e4 e5 e6 e7 e8 e9 t0 g1
  · obtain ⟨f0, f1, f2, f3, -, f5, f6, f7, f8, -, f10, -, hσ⟩ := hJ
    obtain ⟨e0, e1, e2, e3, e4, e5, e6, e7, e8, e9, e10, -⟩ := hE'
    obtain ⟨t0, t1, -⟩ := hT'
    intro v hv
    subst hv
    cases v with
    | none => exact hs'.elim
    | some v1 =>
      obtain ⟨⟨i1, rfl, g1⟩, -⟩ := hs'
      exact k4 (x' 6) (x' 7) (x' 8) (x' 9) (x' 10) (x' 11) i1 f0 f1 f2 f3 f5 f6 f7 f8 f10 e0 e1 e2 e3 e4 e5 e6 e7 e8 e9 e10 t0 t1 g1
  · obtain ⟨f0, f1, f2, f3, -, f5, f6, f7, f8, -, f10, -, hσ⟩ := hJ
    obtain ⟨e0, e1, e2, e3, e4, e5, e6, e7, e8, e9, e10, -⟩ := hE'
    obtain ⟨t0, t1, -⟩ := hT'
    obtain ⟨p0, p1, p2, p3, p4, p5, -⟩ := hL'
    obtain ⟨v1, r1, rfl, ⟨i1, rfl, g1⟩, hs1⟩ := sg_tc hs'
    obtain ⟨v2, r2, rfl, ⟨i2, rfl, g2⟩, hs2⟩ := sg_tc hs1
    obtain ⟨v3, r3, rfl, rfl, hs3⟩ := sg_tc hs2
    obtain rfl := sg_tn hs3
    exact k5 (x' 6) (x' 7) (x' 8) (x' 9) (x' 10) (x' 11) L' i1 i2 f0 f1 f2 f3 f5 f6 f7 f8 f10 e0 e1 e2 e3 e4 e5 e6 e7 e8 e9 e10 t0 t1 p0 p1 p2 p3 p4 p5 g1 g2
  · obtain ⟨f0, f1, f2, f3, -, f5, f6, -, hσ⟩ := hJ
    obtain ⟨e0, e1, e2, e3, e4, e5, e6, e7, e8, -⟩ := hE'
    intro v hv
    subst hv
    cases v with
    | none => exact hs'.elim
    | some v1 =>
      obtain ⟨⟨i1, rfl, g1⟩, -⟩ := hs'
      exact k6 (x' 6) (x' 7) (x' 8) (x' 10) i1 f0 f1 f2 f3 f5 f6 e0 e1 e2 e3 e4 e5 e6 e7 e8 g1
  · obtain ⟨f0, f1, f2, f3, -, f5, f6, f7, -, f9, -, hσ⟩ := hJ
    obtain ⟨e0, e1, e2, e3, e4, e5, e6, e7, e8, e9, e10, -⟩ := hE'
    obtain ⟨t0, t1, -⟩ := hT'
    obtain ⟨p0, p1, p2, p3, p4, p5, -⟩ := hL'
    obtain ⟨v1, r1, rfl, ⟨i1, rfl, g1⟩, hs1⟩ := sg_tc hs'
    obtain ⟨v2, r2, rfl, ⟨i2, rfl, g2⟩, hs2⟩ := sg_tc hs1
    obtain ⟨v3, r3, rfl, rfl, hs3⟩ := sg_tc hs2
    obtain rfl := sg_tn hs3
    exact k7 (x' 6) (x' 7) (x' 8) (x' 9) (x' 10) (x' 11) L' i1 i2 f0 f1 f2 f3 f5 f6 f7 f9 e0 e1 e2 e3 e4 e5 e6 e7 e8 e9 e10 t0 t1 p0 p1 p2 p3 p4 p5 g1 g2
  · obtain ⟨f0, f1, f2, f3, -, f5, f6, f7, f8, -, hσ⟩ := hJ
    obtain ⟨e0, e1, e2, e3, e4, e5, e6, e7, e8, e9, -⟩ := hE'
    obtain ⟨t0, -⟩ := hT'
    intro v hv
    subst hv
    cases v with
    | none => exact hs'.elim
    | some v1 =>
      obtain ⟨⟨i1, rfl, g1⟩, -⟩ := hs'
      exact k8 (x' 6) (x' 7) (x' 8) (x' 9) (x' 10) i1 f0 f1 f2 f3 f5 f6 f7 f8 e0 e1 e2 e3 e4 e5 e6 e7 e8 e9 t0 g1
  · obtain ⟨f0, f1, f2, f3, -, f5, f6, f7, f8, -, f10, -, hσ⟩ := hJ
    obtain ⟨e0, e1, e2, e3, e4, e5, e6, e7, e8, e9, e10, -⟩ := hE'
    obtain ⟨t0, t1, -⟩ := hT'
    obtain ⟨p0, p1, p2, p3, p4, p5, -⟩ := hL'
    obtain ⟨v1, r1, rfl, ⟨i1, rfl, g1⟩, hs1⟩ := sg_tc hs'
    obtain ⟨v2, r2, rfl, ⟨i2, rfl, g2⟩, hs2⟩ := sg_tc hs1
    obtain ⟨v3, r3, rfl, rfl, hs3⟩ := sg_tc hs2
    obtain rfl := sg_tn hs3
    exact k9 (x' 6) (x' 7) (x' 8) (x' 9) (x' 10) (x' 11) L' i1 i2 f0 f1 f2 f3 f5 f6 f7 f8 f10 e0 e1 e2 e3 e4 e5 e6 e7 e8 e9 e10 t0 t1 p0 p1 p2 p3 p4 p5 g1 g2
def sg_as_b_Z : List sg_z := [(37, [(0, .inr (.inl [122])), (1, .inl (false, (1, .ofNat 1, .ofNat 0))), (2, .inl (false, (2, .ofNat 1, .ofNat 0))), (3, .inl (false, (3, .ofNat 1, .ofNat 0))), (4, .inl (false, (4, .ofNat 1, .ofNat 0))), (5, .inl (false, (5, .ofNat 1, .ofNat 0))), (6, .inl (false, (0, .ofNat 0, .ofNat 0))), (7, .inl (false, (0, .ofNat 0, .ofNat 0)))], [], [(2, 1, (6, .ofNat 1, .ofNat 0), (4, .ofNat 1, .ofNat 0), (0, .ofNat 0, .ofNat 0)), (0, 122, (0, .ofNat 0, .ofNat 43), (6, .ofNat 1, .ofNat 0), (0, .ofNat 0, .ofNat 0))], [(1, [(.ofNat 0, .ofNat 7)]), (2, [(.ofNat 0, .ofNat 7)]), (3, [(.ofNat 0, .ofNat 240)]), (4, [(.ofNat 1, .ofNat 20)]), (5, [(.ofNat 0, .ofNat 1000)]), (6, [(.ofNat 0, .ofNat 40)])], [], []),
  (37, [(0, .inr (.inl [122])), (1, .inl (false, (1, .ofNat 1, .ofNat 0))), (2, .inl (false, (2, .ofNat 1, .ofNat 0))), (3, .inl (false, (3, .ofNat 1, .ofNat 0))), (4, .inl (false, (4, .ofNat 1, .ofNat 0))), (5, .inl (false, (5, .ofNat 1, .ofNat 0))), (6, .inl (false, (0, .ofNat 0, .ofNat 1))), (7, .inl (false, (0, .ofNat 0, .ofNat 0)))], [], [(2, 0, (6, .ofNat 1, .ofNat 0), (4, .ofNat 1, .ofNat 0), (0, .ofNat 0, .ofNat 0)), (0, 122, (0, .ofNat 0, .ofNat 43), (6, .ofNat 1, .ofNat 0), (0, .ofNat 0, .ofNat 0))], [(1, [(.ofNat 0, .ofNat 7)]), (2, [(.ofNat 0, .ofNat 7)]), (3, [(.ofNat 0, .ofNat 240)]), (4, [(.ofNat 1, .ofNat 20)]), (5, [(.ofNat 0, .ofNat 1000)]), (6, [(.ofNat 1, .ofNat 20)])], [], [])]
set_option maxRecDepth 1000000 in
theorem sg_as_b_g : sg_go [] [36] 3000 250 17 0 6 [(0, [(.ofNat 0, .ofNat 0)]), (1, [(.ofNat 0, .ofNat 7)]), (2, [(.ofNat 0, .ofNat 7)]), (3, [(.ofNat 0, .ofNat 240)]), (4, [(.ofNat 1, .ofNat 20)]), (5, [(.ofNat 0, .ofNat 1000)])] [] [] [] [(0, .inr (.inl [122])), (1, .inl (false, (1, .ofNat 1, .ofNat 0))), (2, .inl (false, (2, .ofNat 1, .ofNat 0))), (3, .inl (false, (3, .ofNat 1, .ofNat 0))), (4, .inl (false, (4, .ofNat 1, .ofNat 0))), (5, .inl (false, (5, .ofNat 1, .ofNat 0)))] [] [] sg_as_b_Z = true := by decide +kernel
set_option maxRecDepth 100000 in
theorem sg_as_b {Q : Option Value × am_S → Prop} {d : Nat} {S : am_S} {L : am_L} {x1 x2 x3 x4 x5 : Int} (hd : 0 ≤ d) (hP : ax_P0 none S) (l0 : lc L 0 122) (l1 : li L 1 x1) (l2 : li L 2 x2) (l3 : li L 3 x3) (l4 : li L 4 x4) (l5 : li L 5 x5) (b1 : (0 ≤ x1 ∧ x1 ≤ 7)) (b2 : (0 ≤ x2 ∧ x2 ≤ 7)) (b3 : (0 ≤ x3 ∧ x3 ≤ 240)) (b4 : (1 ≤ x4 ∧ x4 ≤ 20)) (b5 : (0 ≤ x5 ∧ x5 ≤ 1000))
    (k0 : ∀ (x6 : Int) (L' : am_L), rd S 122 43 = x6 → x6 ≠ x4 → (0 ≤ x1 ∧ x1 ≤ 7) → (0 ≤ x2 ∧ x2 ≤ 7) → (0 ≤ x3 ∧ x3 ≤ 240) → (1 ≤ x4 ∧ x4 ≤ 20) → (0 ≤ x5 ∧ x5 ≤ 1000) → (0 ≤ x6 ∧ x6 ≤ 40) → lc L' 0 122 → li L' 1 x1 → li L' 2 x2 → li L' 3 x3 → li L' 4 x4 → li L' 5 x5 → li L' 6 0 → li L' 7 0 → am_V none d 250 36 L' ([]) S Q)
    (k1 : ∀ (x6 : Int) (L' : am_L), rd S 122 43 = x6 → x6 = x4 → (0 ≤ x1 ∧ x1 ≤ 7) → (0 ≤ x2 ∧ x2 ≤ 7) → (0 ≤ x3 ∧ x3 ≤ 240) → (1 ≤ x4 ∧ x4 ≤ 20) → (0 ≤ x5 ∧ x5 ≤ 1000) → (1 ≤ x6 ∧ x6 ≤ 20) → lc L' 0 122 → li L' 1 x1 → li L' 2 x2 → li L' 3 x3 → li L' 4 x4 → li L' 5 x5 → li L' 6 1 → li L' 7 0 → am_V none d 250 36 L' ([]) S Q) : am_V none d 250 17 L ([]) S Q := by
  refine sg_use sg_as_b_g hd hP (sg_xs [0, x1, x2, x3, x4, x5]) ⟨⟨Int.le_refl 0, Int.le_refl 0⟩, b1, b2, b3, b4, b5, trivial⟩ trivial trivial trivial ⟨l0, l1, l2, l3, l4, l5, trivial⟩ trivial ?_
  intro z hz x' L' st' S' hx hP' hW hL' hs' hJ hE' hT' hD'
  have q1 : x' 1 = x1 := hx 1 (by decide)
  subst q1
  have q2 : x' 2 = x2 := hx 2 (by decide)
  subst q2
  have q3 : x' 3 = x3 := hx 3 (by decide)
  subst q3
  have q4 : x' 4 = x4 := hx 4 (by decide)
  subst q4
  have q5 : x' 5 = x5 := hx 5 (by decide)
  subst q5
  have eS : S' = S := hW.1 rfl
  subst eS
  simp only [sg_as_b_Z, List.mem_cons, List.not_mem_nil, or_false] at hz
  rcases hz with rfl | rfl
  · obtain ⟨f0, f1, hσ⟩ := hJ
    obtain ⟨e0, e1, e2, e3, e4, e5, -⟩ := hE'
    obtain ⟨p0, p1, p2, p3, p4, p5, p6, p7, -⟩ := hL'
    obtain rfl := sg_tn hs'
    exact k0 (x' 6) L' f0 f1 e0 e1 e2 e3 e4 e5 p0 p1 p2 p3 p4 p5 p6 p7
  · obtain ⟨f0, f1, hσ⟩ := hJ
    obtain ⟨e0, e1, e2, e3, e4, e5, -⟩ := hE'
    obtain ⟨p0, p1, p2, p3, p4, p5, p6, p7, -⟩ := hL'
    obtain rfl := sg_tn hs'
    exact k1 (x' 6) L' f0 f1 e0 e1 e2 e3 e4 e5 p0 p1 p2 p3 p4 p5 p6 p7
def sg_as_c_Z : List sg_z := [(0, [], [.inl (false, (6, .ofNat 1, .ofNat 0))], [(2, 3, (7, .ofNat 1, .ofNat 0), (4, .ofNat 1, .ofNat 0), (0, .ofNat 0, .ofNat 0))], [(1, [(.ofNat 0, .ofNat 7)]), (2, [(.ofNat 0, .ofNat 7)]), (3, [(.ofNat 0, .ofNat 240)]), (4, [(.ofNat 1, .ofNat 20)]), (5, [(.ofNat 0, .ofNat 1000)]), (6, [(.ofNat 0, .ofNat 1)]), (7, [(.ofNat 1, .ofNat 20)])], [], []),
  (0, [], [.inl (false, (0, .ofNat 0, .ofNat 0))], [(2, 0, (6, .ofNat 1, .ofNat 0), (0, .ofNat 0, .ofNat 0), (0, .ofNat 0, .ofNat 0)), (2, 2, (7, .ofNat 1, .ofNat 0), (4, .ofNat 1, .ofNat 0), (0, .ofNat 0, .ofNat 0))], [(1, [(.ofNat 0, .ofNat 7)]), (2, [(.ofNat 0, .ofNat 7)]), (3, [(.ofNat 0, .ofNat 240)]), (4, [(.ofNat 1, .ofNat 20)]), (5, [(.ofNat 0, .ofNat 1000)]), (6, [(.ofNat 0, .ofNat 0)]), (7, [(.ofNat 0, .ofNat 19)])], [], []),
  (49, [(0, .inr (.inl [122])), (1, .inl (false, (1, .ofNat 1, .ofNat 0))), (2, .inl (false, (2, .ofNat 1, .ofNat 0))), (3, .inl (false, (3, .ofNat 1, .ofNat 0))), (4, .inl (false, (4, .ofNat 1, .ofNat 0))), (5, .inl (false, (5, .ofNat 1, .ofNat 0))), (6, .inl (false, (0, .ofNat 0, .ofNat 1))), (7, .inl (false, (7, .ofNat 1, .ofNat 0)))], [], [(2, 1, (6, .ofNat 1, .ofNat 0), (0, .ofNat 0, .ofNat 0), (0, .ofNat 0, .ofNat 0)), (2, 2, (7, .ofNat 1, .ofNat 0), (4, .ofNat 1, .ofNat 0), (0, .ofNat 0, .ofNat 0))], [(1, [(.ofNat 0, .ofNat 7)]), (2, [(.ofNat 0, .ofNat 7)]), (3, [(.ofNat 0, .ofNat 240)]), (4, [(.ofNat 1, .ofNat 20)]), (5, [(.ofNat 0, .ofNat 1000)]), (6, [(.ofNat 1, .ofNat 1)]), (7, [(.ofNat 0, .ofNat 19)])], [], [])]
set_option maxRecDepth 1000000 in
theorem sg_as_c_g : sg_go [] [48] 3000 250 36 0 8 [(0, [(.ofNat 0, .ofNat 0)]), (1, [(.ofNat 0, .ofNat 7)]), (2, [(.ofNat 0, .ofNat 7)]), (3, [(.ofNat 0, .ofNat 240)]), (4, [(.ofNat 1, .ofNat 20)]), (5, [(.ofNat 0, .ofNat 1000)]), (6, [(.ofNat 0, .ofNat 1)]), (7, [(.ofNat 0, .ofNat 20)])] [] [] [] [(0, .inr (.inl [122])), (1, .inl (false, (1, .ofNat 1, .ofNat 0))), (2, .inl (false, (2, .ofNat 1, .ofNat 0))), (3, .inl (false, (3, .ofNat 1, .ofNat 0))), (4, .inl (false, (4, .ofNat 1, .ofNat 0))), (5, .inl (false, (5, .ofNat 1, .ofNat 0))), (6, .inl (false, (6, .ofNat 1, .ofNat 0))), (7, .inl (false, (7, .ofNat 1, .ofNat 0)))] [] [] sg_as_c_Z = true := by decide +kernel
set_option maxRecDepth 100000 in
theorem sg_as_c {Q : Option Value × am_S → Prop} {d : Nat} {S : am_S} {L : am_L} {x1 x2 x3 x4 x5 x6 x7 : Int} (hd : 0 ≤ d) (hP : ax_P0 none S) (l0 : lc L 0 122) (l1 : li L 1 x1) (l2 : li L 2 x2) (l3 : li L 3 x3) (l4 : li L 4 x4) (l5 : li L 5 x5) (l6 : li L 6 x6) (l7 : li L 7 x7) (b1 : (0 ≤ x1 ∧ x1 ≤ 7)) (b2 : (0 ≤ x2 ∧ x2 ≤ 7)) (b3 : (0 ≤ x3 ∧ x3 ≤ 240)) (b4 : (1 ≤ x4 ∧ x4 ≤ 20)) (b5 : (0 ≤ x5 ∧ x5 ≤ 1000)) (b6 : (0 ≤ x6 ∧ x6 ≤ 1)) (b7 : (0 ≤ x7 ∧ x7 ≤ 20))
    (k0 : ∀ (i1 : Int32), x4 ≤ x7 → (0 ≤ x1 ∧ x1 ≤ 7) → (0 ≤ x2 ∧ x2 ≤ 7) → (0 ≤ x3 ∧ x3 ≤ 240) → (1 ≤ x4 ∧ x4 ≤ 20) → (0 ≤ x5 ∧ x5 ≤ 1000) → (0 ≤ x6 ∧ x6 ≤ 1) → (1 ≤ x7 ∧ x7 ≤ 20) → i1.toInt = x6 → Q (some (.int i1), S))
    (k1 : ∀ (i1 : Int32), x7 < x4 → x6 = 0 → (0 ≤ x1 ∧ x1 ≤ 7) → (0 ≤ x2 ∧ x2 ≤ 7) → (0 ≤ x3 ∧ x3 ≤ 240) → (1 ≤ x4 ∧ x4 ≤ 20) → (0 ≤ x5 ∧ x5 ≤ 1000) → (0 ≤ x6 ∧ x6 ≤ 0) → (0 ≤ x7 ∧ x7 ≤ 19) → i1.toInt = 0 → Q (some (.int i1), S))
    (k2 : ∀ (L' : am_L), x7 < x4 → x6 ≠ 0 → (0 ≤ x1 ∧ x1 ≤ 7) → (0 ≤ x2 ∧ x2 ≤ 7) → (0 ≤ x3 ∧ x3 ≤ 240) → (1 ≤ x4 ∧ x4 ≤ 20) → (0 ≤ x5 ∧ x5 ≤ 1000) → (1 ≤ x6 ∧ x6 ≤ 1) → (0 ≤ x7 ∧ x7 ≤ 19) → lc L' 0 122 → li L' 1 x1 → li L' 2 x2 → li L' 3 x3 → li L' 4 x4 → li L' 5 x5 → li L' 6 1 → li L' 7 x7 → am_V none d 250 48 L' ([]) S Q) : am_V none d 250 36 L ([]) S Q := by
  refine sg_use sg_as_c_g hd hP (sg_xs [0, x1, x2, x3, x4, x5, x6, x7]) ⟨⟨Int.le_refl 0, Int.le_refl 0⟩, b1, b2, b3, b4, b5, b6, b7, trivial⟩ trivial trivial trivial ⟨l0, l1, l2, l3, l4, l5, l6, l7, trivial⟩ trivial ?_
  intro z hz x' L' st' S' hx hP' hW hL' hs' hJ hE' hT' hD'
  have q1 : x' 1 = x1 := hx 1 (by decide)
  subst q1
  have q2 : x' 2 = x2 := hx 2 (by decide)
  subst q2
  have q3 : x' 3 = x3 := hx 3 (by decide)
  subst q3
  have q4 : x' 4 = x4 := hx 4 (by decide)
  subst q4
  have q5 : x' 5 = x5 := hx 5 (by decide)
  subst q5
  have q6 : x' 6 = x6 := hx 6 (by decide)
  subst q6
  have q7 : x' 7 = x7 := hx 7 (by decide)
  subst q7
  have eS : S' = S := hW.1 rfl
  subst eS
  simp only [sg_as_c_Z, List.mem_cons, List.not_mem_nil, or_false] at hz
  rcases hz with rfl | rfl | rfl
  · obtain ⟨f0, hσ⟩ := hJ
    obtain ⟨e0, e1, e2, e3, e4, e5, e6, -⟩ := hE'
    intro v hv
    subst hv
    cases v with
    | none => exact hs'.elim
    | some v1 =>
      obtain ⟨⟨i1, rfl, g1⟩, -⟩ := hs'
      exact k0 i1 f0 e0 e1 e2 e3 e4 e5 e6 g1
  · obtain ⟨f0, f1, hσ⟩ := hJ
    obtain ⟨e0, e1, e2, e3, e4, e5, e6, -⟩ := hE'
    intro v hv
    subst hv
    cases v with
    | none => exact hs'.elim
    | some v1 =>
      obtain ⟨⟨i1, rfl, g1⟩, -⟩ := hs'
      exact k1 i1 f0 f1 e0 e1 e2 e3 e4 e5 e6 g1
  · obtain ⟨f0, f1, hσ⟩ := hJ
    obtain ⟨e0, e1, e2, e3, e4, e5, e6, -⟩ := hE'
    obtain ⟨p0, p1, p2, p3, p4, p5, p6, p7, -⟩ := hL'
    obtain rfl := sg_tn hs'
    exact k2 L' f0 f1 e0 e1 e2 e3 e4 e5 e6 p0 p1 p2 p3 p4 p5 p6 p7
def sg_as_d_Z : List sg_z := [(37, [(0, .inr (.inl [122])), (1, .inl (false, (1, .ofNat 1, .ofNat 0))), (2, .inl (false, (2, .ofNat 1, .ofNat 0))), (3, .inl (false, (3, .ofNat 1, .ofNat 0))), (4, .inl (false, (4, .ofNat 1, .ofNat 0))), (5, .inl (false, (5, .ofNat 1, .ofNat 0))), (6, .inl (false, (0, .ofNat 0, .ofNat 0))), (7, .inl (false, (7, .ofNat 1, .ofNat 1))), (8, .inl (true, (11, .ofNat 1, .ofNat 0)))], [], [(2, 2, (11, .ofNat 1, .ofNat 0), (5, .negSucc 0, .ofNat 0), (0, .ofNat 0, .ofNat 0)), (0, 160, (8, .ofNat 1, .ofNat 0), (10, .ofNat 1, .ofNat 0), (0, .ofNat 0, .ofNat 0)), (0, 149, (7, .ofNat 1, .ofNat 0), (9, .ofNat 1, .ofNat 0), (0, .ofNat 0, .ofNat 0))], [(1, [(.ofNat 0, .ofNat 7)]), (2, [(.ofNat 0, .ofNat 7)]), (3, [(.ofNat 0, .ofNat 240)]), (4, [(.ofNat 1, .ofNat 20)]), (5, [(.ofNat 0, .ofNat 1000)]), (6, [(.ofNat 0, .ofNat 1)]), (7, [(.ofNat 0, .ofNat 19)]), (8, [(.ofNat 0, .ofNat 239)]), (11, [(.negSucc 4294967294, .negSucc 0)])], [((9, .ofNat 1, .ofNat 0), (10, .negSucc 0, .ofNat 0), (11, .ofNat 1, .ofNat 0)), ((3, .ofNat 1, .ofNat 0), (7, .ofNat 1, .ofNat 0), (8, .ofNat 1, .ofNat 0))], []),
  (37, [(0, .inr (.inl [122])), (1, .inl (false, (1, .ofNat 1, .ofNat 0))), (2, .inl (false, (2, .ofNat 1, .ofNat 0))), (3, .inl (false, (3, .ofNat 1, .ofNat 0))), (4, .inl (false, (4, .ofNat 1, .ofNat 0))), (5, .inl (false, (5, .ofNat 1, .ofNat 0))), (6, .inl (false, (0, .ofNat 0, .ofNat 0))), (7, .inl (false, (7, .ofNat 1, .ofNat 1))), (8, .inl (true, (11, .ofNat 1, .ofNat 0)))], [], [(2, 4, (11, .ofNat 1, .ofNat 0), (5, .ofNat 1, .ofNat 0), (0, .ofNat 0, .ofNat 0)), (2, 3, (11, .ofNat 1, .ofNat 0), (5, .negSucc 0, .ofNat 0), (0, .ofNat 0, .ofNat 0)), (0, 160, (8, .ofNat 1, .ofNat 0), (10, .ofNat 1, .ofNat 0), (0, .ofNat 0, .ofNat 0)), (0, 149, (7, .ofNat 1, .ofNat 0), (9, .ofNat 1, .ofNat 0), (0, .ofNat 0, .ofNat 0))], [(1, [(.ofNat 0, .ofNat 7)]), (2, [(.ofNat 0, .ofNat 7)]), (3, [(.ofNat 0, .ofNat 240)]), (4, [(.ofNat 1, .ofNat 20)]), (5, [(.ofNat 0, .ofNat 1000)]), (6, [(.ofNat 0, .ofNat 1)]), (7, [(.ofNat 0, .ofNat 19)]), (8, [(.ofNat 0, .ofNat 239)]), (11, [(.ofNat 1, .ofNat 4294967295)])], [((9, .ofNat 1, .ofNat 0), (10, .negSucc 0, .ofNat 0), (11, .ofNat 1, .ofNat 0)), ((3, .ofNat 1, .ofNat 0), (7, .ofNat 1, .ofNat 0), (8, .ofNat 1, .ofNat 0))], []),
  (37, [(0, .inr (.inl [122])), (1, .inl (false, (1, .ofNat 1, .ofNat 0))), (2, .inl (false, (2, .ofNat 1, .ofNat 0))), (3, .inl (false, (3, .ofNat 1, .ofNat 0))), (4, .inl (false, (4, .ofNat 1, .ofNat 0))), (5, .inl (false, (5, .ofNat 1, .ofNat 0))), (6, .inl (false, (0, .ofNat 0, .ofNat 1))), (7, .inl (false, (7, .ofNat 1, .ofNat 1))), (8, .inl (true, (11, .ofNat 1, .ofNat 0)))], [], [(2, 5, (11, .ofNat 1, .ofNat 0), (5, .ofNat 1, .ofNat 0), (0, .ofNat 0, .ofNat 0)), (2, 3, (11, .ofNat 1, .ofNat 0), (5, .negSucc 0, .ofNat 0), (0, .ofNat 0, .ofNat 0)), (0, 160, (8, .ofNat 1, .ofNat 0), (10, .ofNat 1, .ofNat 0), (0, .ofNat 0, .ofNat 0)), (0, 149, (7, .ofNat 1, .ofNat 0), (9, .ofNat 1, .ofNat 0), (0, .ofNat 0, .ofNat 0))], [(1, [(.ofNat 0, .ofNat 7)]), (2, [(.ofNat 0, .ofNat 7)]), (3, [(.ofNat 0, .ofNat 240)]), (4, [(.ofNat 1, .ofNat 20)]), (5, [(.ofNat 0, .ofNat 1000)]), (6, [(.ofNat 0, .ofNat 1)]), (7, [(.ofNat 0, .ofNat 19)]), (8, [(.ofNat 0, .ofNat 239)]), (11, [(.negSucc 999, .ofNat 1000)])], [((9, .ofNat 1, .ofNat 0), (10, .negSucc 0, .ofNat 0), (11, .ofNat 1, .ofNat 0)), ((3, .ofNat 1, .ofNat 0), (7, .ofNat 1, .ofNat 0), (8, .ofNat 1, .ofNat 0))], [])]
set_option maxRecDepth 1000000 in
theorem sg_as_d_g : sg_go [] [36] 3000 250 48 1 9 [(0, [(.ofNat 0, .ofNat 0)]), (1, [(.ofNat 0, .ofNat 7)]), (2, [(.ofNat 0, .ofNat 7)]), (3, [(.ofNat 0, .ofNat 240)]), (4, [(.ofNat 1, .ofNat 20)]), (5, [(.ofNat 0, .ofNat 1000)]), (6, [(.ofNat 0, .ofNat 1)]), (7, [(.ofNat 0, .ofNat 19)]), (8, [(.ofNat 0, .ofNat 239)])] [] [((3, .ofNat 1, .ofNat 0), (7, .ofNat 1, .ofNat 0), (8, .ofNat 1, .ofNat 0))] [] [(0, .inr (.inl [122])), (1, .inl (false, (1, .ofNat 1, .ofNat 0))), (2, .inl (false, (2, .ofNat 1, .ofNat 0))), (3, .inl (false, (3, .ofNat 1, .ofNat 0))), (4, .inl (false, (4, .ofNat 1, .ofNat 0))), (5, .inl (false, (5, .ofNat 1, .ofNat 0))), (6, .inl (false, (6, .ofNat 1, .ofNat 0))), (7, .inl (false, (7, .ofNat 1, .ofNat 0)))] [] [] sg_as_d_Z = true := by decide +kernel
set_option maxRecDepth 100000 in
theorem sg_as_d {Q : Option Value × am_S → Prop} {d : Nat} {S : am_S} {L : am_L} {x1 x2 x3 x4 x5 x6 x7 x8 : Int} (hd : 1 ≤ d) (hP : ax_P0 none S) (l0 : lc L 0 122) (l1 : li L 1 x1) (l2 : li L 2 x2) (l3 : li L 3 x3) (l4 : li L 4 x4) (l5 : li L 5 x5) (l6 : li L 6 x6) (l7 : li L 7 x7) (b1 : (0 ≤ x1 ∧ x1 ≤ 7)) (b2 : (0 ≤ x2 ∧ x2 ≤ 7)) (b3 : (0 ≤ x3 ∧ x3 ≤ 240)) (b4 : (1 ≤ x4 ∧ x4 ≤ 20)) (b5 : (0 ≤ x5 ∧ x5 ≤ 1000)) (b6 : (0 ≤ x6 ∧ x6 ≤ 1)) (b7 : (0 ≤ x7 ∧ x7 ≤ 19)) (b8 : (0 ≤ x8 ∧ x8 ≤ 239)) (t0 : x3 + x7 = x8)
    (k0 : ∀ (x9 x10 x11 : Int) (L' : am_L), rd S 149 x7 = x9 → rd S 160 x8 = x10 → x11 < (-1) * x5 + 0 → (0 ≤ x1 ∧ x1 ≤ 7) → (0 ≤ x2 ∧ x2 ≤ 7) → (0 ≤ x3 ∧ x3 ≤ 240) → (1 ≤ x4 ∧ x4 ≤ 20) → (0 ≤ x5 ∧ x5 ≤ 1000) → (0 ≤ x6 ∧ x6 ≤ 1) → (0 ≤ x7 ∧ x7 ≤ 19) → (0 ≤ x8 ∧ x8 ≤ 239) → ((-4294967295) ≤ x11 ∧ x11 ≤ (-1)) → x9 + ((-1) * x10 + 0) = x11 → x3 + x7 = x8 → lc L' 0 122 → li L' 1 x1 → li L' 2 x2 → li L' 3 x3 → li L' 4 x4 → li L' 5 x5 → li L' 6 0 → li L' 7 (x7 + 1) → lj L' 8 x11 → am_V none d 250 36 L' ([]) S Q)
    (k1 : ∀ (x9 x10 x11 : Int) (L' : am_L), rd S 149 x7 = x9 → rd S 160 x8 = x10 → (-1) * x5 + 0 ≤ x11 → x5 < x11 → (0 ≤ x1 ∧ x1 ≤ 7) → (0 ≤ x2 ∧ x2 ≤ 7) → (0 ≤ x3 ∧ x3 ≤ 240) → (1 ≤ x4 ∧ x4 ≤ 20) → (0 ≤ x5 ∧ x5 ≤ 1000) → (0 ≤ x6 ∧ x6 ≤ 1) → (0 ≤ x7 ∧ x7 ≤ 19) → (0 ≤ x8 ∧ x8 ≤ 239) → (1 ≤ x11 ∧ x11 ≤ 4294967295) → x9 + ((-1) * x10 + 0) = x11 → x3 + x7 = x8 → lc L' 0 122 → li L' 1 x1 → li L' 2 x2 → li L' 3 x3 → li L' 4 x4 → li L' 5 x5 → li L' 6 0 → li L' 7 (x7 + 1) → lj L' 8 x11 → am_V none d 250 36 L' ([]) S Q)
    (k2 : ∀ (x9 x10 x11 : Int) (L' : am_L), rd S 149 x7 = x9 → rd S 160 x8 = x10 → (-1) * x5 + 0 ≤ x11 → x11 ≤ x5 → (0 ≤ x1 ∧ x1 ≤ 7) → (0 ≤ x2 ∧ x2 ≤ 7) → (0 ≤ x3 ∧ x3 ≤ 240) → (1 ≤ x4 ∧ x4 ≤ 20) → (0 ≤ x5 ∧ x5 ≤ 1000) → (0 ≤ x6 ∧ x6 ≤ 1) → (0 ≤ x7 ∧ x7 ≤ 19) → (0 ≤ x8 ∧ x8 ≤ 239) → ((-1000) ≤ x11 ∧ x11 ≤ 1000) → x9 + ((-1) * x10 + 0) = x11 → x3 + x7 = x8 → lc L' 0 122 → li L' 1 x1 → li L' 2 x2 → li L' 3 x3 → li L' 4 x4 → li L' 5 x5 → li L' 6 1 → li L' 7 (x7 + 1) → lj L' 8 x11 → am_V none d 250 36 L' ([]) S Q) : am_V none d 250 48 L ([]) S Q := by
  refine sg_use sg_as_d_g hd hP (sg_xs [0, x1, x2, x3, x4, x5, x6, x7, x8]) ⟨⟨Int.le_refl 0, Int.le_refl 0⟩, b1, b2, b3, b4, b5, b6, b7, b8, trivial⟩ trivial ⟨t0, trivial⟩ trivial ⟨l0, l1, l2, l3, l4, l5, l6, l7, trivial⟩ trivial ?_
  intro z hz x' L' st' S' hx hP' hW hL' hs' hJ hE' hT' hD'
  have q1 : x' 1 = x1 := hx 1 (by decide)
  subst q1
  have q2 : x' 2 = x2 := hx 2 (by decide)
  subst q2
  have q3 : x' 3 = x3 := hx 3 (by decide)
  subst q3
  have q4 : x' 4 = x4 := hx 4 (by decide)
  subst q4
  have q5 : x' 5 = x5 := hx 5 (by decide)
  subst q5
  have q6 : x' 6 = x6 := hx 6 (by decide)
  subst q6
  have q7 : x' 7 = x7 := hx 7 (by decide)
  subst q7
  have q8 : x' 8 = x8 := hx 8 (by decide)
  subst q8
  have eS : S' = S := hW.1 rfl
  subst eS
  simp only [sg_as_d_Z, List.mem_cons, List.not_mem_nil, or_false] at hz
  rcases hz with rfl | rfl | rfl
  · obtain ⟨f0, f1, f2, hσ⟩ := hJ
    obtain ⟨e0, e1, e2, e3, e4, e5, e6, e7, e8, -⟩ := hE'
    obtain ⟨t0, t1, -⟩ := hT'
    obtain ⟨p0, p1, p2, p3, p4, p5, p6, p7, p8, -⟩ := hL'
    obtain rfl := sg_tn hs'
    exact k0 (x' 9) (x' 10) (x' 11) L' f0 f1 f2 e0 e1 e2 e3 e4 e5 e6 e7 e8 t0 t1 p0 p1 p2 p3 p4 p5 p6 p7 p8
  · obtain ⟨f0, f1, f2, f3, hσ⟩ := hJ
    obtain ⟨e0, e1, e2, e3, e4, e5, e6, e7, e8, -⟩ := hE'
    obtain ⟨t0, t1, -⟩ := hT'
    obtain ⟨p0, p1, p2, p3, p4, p5, p6, p7, p8, -⟩ := hL'
    obtain rfl := sg_tn hs'
    exact k1 (x' 9) (x' 10) (x' 11) L' f0 f1 f2 f3 e0 e1 e2 e3 e4 e5 e6 e7 e8 t0 t1 p0 p1 p2 p3 p4 p5 p6 p7 p8
  · obtain ⟨f0, f1, f2, f3, hσ⟩ := hJ
    obtain ⟨e0, e1, e2, e3, e4, e5, e6, e7, e8, -⟩ := hE'
    obtain ⟨t0, t1, -⟩ := hT'
    obtain ⟨p0, p1, p2, p3, p4, p5, p6, p7, p8, -⟩ := hL'
    obtain rfl := sg_tn hs'
    exact k2 (x' 9) (x' 10) (x' 11) L' f0 f1 f2 f3 e0 e1 e2 e3 e4 e5 e6 e7 e8 t0 t1 p0 p1 p2 p3 p4 p5 p6 p7 p8
def sg_mh_x40_Z : List sg_z := [(168, [(0, .inr (.inl [0])), (1, .inl (false, (0, .ofNat 0, .ofNat 0))), (3, .inl (false, (2, .ofNat 1, .ofNat 0))), (4, .inl (false, (3, .ofNat 1, .ofNat 0))), (5, .inl (false, (4, .ofNat 1, .ofNat 0))), (7, .inl (false, (5, .ofNat 1, .ofNat 0))), (8, .inl (false, (6, .ofNat 1, .ofNat 0))), (9, .inl (false, (7, .ofNat 1, .ofNat 0)))], [.inl (false, (4, .ofNat 1, .ofNat 0)), .inl (false, (3, .ofNat 1, .ofNat 0)), .inl (false, (2, .ofNat 1, .ofNat 0)), .inr (.inl [114]), .inr (.inl [64]), .inl (false, (5, .ofNat 1, .ofNat 0))], [], [(1, [(.ofNat 0, .ofNat 0)]), (2, [(.ofNat 0, .ofNat 60)]), (3, [(.ofNat 1, .ofNat 20)]), (4, [(.ofNat 0, .ofNat 1000)]), (5, [(.ofNat 0, .ofNat 64)]), (6, [(.ofNat 0, .ofNat 7)]), (7, [(.ofNat 0, .ofNat 7)])], [], [])]
set_option maxRecDepth 1000000 in
theorem sg_mh_x40_g : sg_go [] [167] 3000 129 150 0 8 [(0, [(.ofNat 0, .ofNat 0)]), (1, [(.ofNat 0, .ofNat 0)]), (2, [(.ofNat 0, .ofNat 60)]), (3, [(.ofNat 1, .ofNat 20)]), (4, [(.ofNat 0, .ofNat 1000)]), (5, [(.ofNat 0, .ofNat 64)]), (6, [(.ofNat 0, .ofNat 7)]), (7, [(.ofNat 0, .ofNat 7)])] [] [] [] [(0, .inr (.inl [0])), (1, .inl (false, (1, .ofNat 1, .ofNat 0))), (3, .inl (false, (2, .ofNat 1, .ofNat 0))), (4, .inl (false, (3, .ofNat 1, .ofNat 0))), (5, .inl (false, (4, .ofNat 1, .ofNat 0))), (7, .inl (false, (5, .ofNat 1, .ofNat 0))), (8, .inl (false, (6, .ofNat 1, .ofNat 0))), (9, .inl (false, (7, .ofNat 1, .ofNat 0)))] [] [] sg_mh_x40_Z = true := by decide +kernel
set_option maxRecDepth 100000 in
theorem sg_mh_x40 {Q : Option Value × am_S → Prop} {d : Nat} {S : am_S} {L : am_L} {x1 x2 x3 x4 x5 x6 x7 : Int} (hd : 0 ≤ d) (hP : ax_P0 none S) (l0 : lc L 0 0) (l1 : li L 1 x1) (l3 : li L 3 x2) (l4 : li L 4 x3) (l5 : li L 5 x4) (l7 : li L 7 x5) (l8 : li L 8 x6) (l9 : li L 9 x7) (b1 : (0 ≤ x1 ∧ x1 ≤ 0)) (b2 : (0 ≤ x2 ∧ x2 ≤ 60)) (b3 : (1 ≤ x3 ∧ x3 ≤ 20)) (b4 : (0 ≤ x4 ∧ x4 ≤ 1000)) (b5 : (0 ≤ x5 ∧ x5 ≤ 64)) (b6 : (0 ≤ x6 ∧ x6 ≤ 7)) (b7 : (0 ≤ x7 ∧ x7 ≤ 7))
    (k0 : ∀ (L' : am_L) (i1 : Int32) (i2 : Int32) (i3 : Int32) (i6 : Int32), (0 ≤ x1 ∧ x1 ≤ 0) → (0 ≤ x2 ∧ x2 ≤ 60) → (1 ≤ x3 ∧ x3 ≤ 20) → (0 ≤ x4 ∧ x4 ≤ 1000) → (0 ≤ x5 ∧ x5 ≤ 64) → (0 ≤ x6 ∧ x6 ≤ 7) → (0 ≤ x7 ∧ x7 ≤ 7) → lc L' 0 0 → li L' 1 0 → li L' 3 x2 → li L' 4 x3 → li L' 5 x4 → li L' 7 x5 → li L' 8 x6 → li L' 9 x7 → i1.toInt = x4 → i2.toInt = x3 → i3.toInt = x2 → i6.toInt = x5 → am_V none d 129 167 L' ((.int i1) :: (.int i2) :: (.int i3) :: (.ref 114) :: (.ref 64) :: (.int i6) :: []) S Q) : am_V none d 129 150 L ([]) S Q := by
  refine sg_use sg_mh_x40_g hd hP (sg_xs [0, x1, x2, x3, x4, x5, x6, x7]) ⟨⟨Int.le_refl 0, Int.le_refl 0⟩, b1, b2, b3, b4, b5, b6, b7, trivial⟩ trivial trivial trivial ⟨l0, l1, l3, l4, l5, l7, l8, l9, trivial⟩ trivial ?_
  intro z hz x' L' st' S' hx hP' hW hL' hs' hJ hE' hT' hD'
  have q1 : x' 1 = x1 := hx 1 (by decide)
  subst q1
  have q2 : x' 2 = x2 := hx 2 (by decide)
  subst q2
  have q3 : x' 3 = x3 := hx 3 (by decide)
  subst q3
  have q4 : x' 4 = x4 := hx 4 (by decide)
  subst q4
  have q5 : x' 5 = x5 := hx 5 (by decide)
  subst q5
  have q6 : x' 6 = x6 := hx 6 (by decide)
  subst q6
  have q7 : x' 7 = x7 := hx 7 (by decide)
  subst q7
  have eS : S' = S := hW.1 rfl
  subst eS
  simp only [sg_mh_x40_Z, List.mem_cons, List.not_mem_nil, or_false] at hz
  rcases hz with rfl
  · have hσ := hJ
    obtain ⟨e0, e1, e2, e3, e4, e5, e6, -⟩ := hE'
    obtain ⟨p0, p1, p2, p3, p4, p5, p6, p7, -⟩ := hL'
    obtain ⟨v1, r1, rfl, ⟨i1, rfl, g1⟩, hs1⟩ := sg_tc hs'
    obtain ⟨v2, r2, rfl, ⟨i2, rfl, g2⟩, hs2⟩ := sg_tc hs1
    obtain ⟨v3, r3, rfl, ⟨i3, rfl, g3⟩, hs3⟩ := sg_tc hs2
    obtain ⟨v4, r4, rfl, rfl, hs4⟩ := sg_tc hs3
    obtain ⟨v5, r5, rfl, rfl, hs5⟩ := sg_tc hs4
    obtain ⟨v6, r6, rfl, ⟨i6, rfl, g6⟩, hs6⟩ := sg_tc hs5
    obtain rfl := sg_tn hs6
    exact k0 L' i1 i2 i3 i6 e0 e1 e2 e3 e4 e5 e6 p0 p1 p2 p3 p4 p5 p6 p7 g1 g2 g3 g6
def sg_il_a0_Z : List sg_z := [(0, [], [.inl (false, (0, .ofNat 0, .ofNat 0))], [(2, 1, (4, .ofNat 1, .ofNat 0), (2, .ofNat 1, .ofNat 0), (0, .ofNat 0, .ofNat 0)), (0, 64, (0, .ofNat 0, .ofNat 0), (4, .ofNat 1, .ofNat 0), (0, .ofNat 0, .ofNat 0))], [(1, [(.ofNat 0, .ofNat 60)]), (2, [(.ofNat 1, .ofNat 20)]), (3, [(.ofNat 0, .ofNat 1000)]), (4, [(.ofNat 0, .ofNat 30)])], [], []),
  (0, [], [.inl (false, (0, .ofNat 0, .ofNat 0))], [(2, 0, (0, .ofNat 0, .ofNat 0), (0, .ofNat 0, .ofNat 0), (0, .ofNat 0, .ofNat 0)), (2, 4, (1, .ofNat 1, .ofNat 0), (6, .ofNat 1, .ofNat 0), (0, .ofNat 0, .ofNat 0)), (0, 114, (0, .ofNat 0, .ofNat 0), (5, .ofNat 1, .ofNat 0), (0, .ofNat 0, .ofNat 0)), (2, 3, (1, .ofNat 1, .ofNat 0), (0, .ofNat 0, .ofNat 0), (0, .ofNat 0, .ofNat 0)), (2, 0, (4, .ofNat 1, .ofNat 0), (2, .ofNat 1, .ofNat 0), (0, .ofNat 0, .ofNat 0)), (0, 64, (0, .ofNat 0, .ofNat 0), (4, .ofNat 1, .ofNat 0), (0, .ofNat 0, .ofNat 0))], [(1, [(.ofNat 0, .ofNat 60)]), (2, [(.ofNat 1, .ofNat 20)]), (3, [(.ofNat 0, .ofNat 1000)]), (4, [(.ofNat 1, .ofNat 20)]), (5, [(.ofNat 0, .ofNat 60)]), (6, [(.negSucc 19, .ofNat 59)])], [((5, .ofNat 1, .ofNat 0), (2, .negSucc 0, .ofNat 0), (6, .ofNat 1, .ofNat 0))], []),
  (23, [(0, .inr (.inl [64])), (1, .inr (.inl [114])), (2, .inl (false, (1, .ofNat 1, .ofNat 0))), (3, .inl (false, (2, .ofNat 1, .ofNat 0))), (4, .inl (false, (3, .ofNat 1, .ofNat 0))), (5, .inl (false, (0, .ofNat 0, .ofNat 0)))], [], [(2, 1, (0, .ofNat 0, .ofNat 1), (0, .ofNat 0, .ofNat 0), (0, .ofNat 0, .ofNat 0)), (2, 5, (1, .ofNat 1, .ofNat 0), (6, .ofNat 1, .ofNat 0), (0, .ofNat 0, .ofNat 0)), (0, 114, (0, .ofNat 0, .ofNat 0), (5, .ofNat 1, .ofNat 0), (0, .ofNat 0, .ofNat 0)), (2, 3, (1, .ofNat 1, .ofNat 0), (0, .ofNat 0, .ofNat 0), (0, .ofNat 0, .ofNat 0)), (2, 0, (4, .ofNat 1, .ofNat 0), (2, .ofNat 1, .ofNat 0), (0, .ofNat 0, .ofNat 0)), (0, 64, (0, .ofNat 0, .ofNat 0), (4, .ofNat 1, .ofNat 0), (0, .ofNat 0, .ofNat 0))], [(1, [(.ofNat 0, .ofNat 59)]), (2, [(.ofNat 1, .ofNat 20)]), (3, [(.ofNat 0, .ofNat 1000)]), (4, [(.ofNat 1, .ofNat 20)]), (5, [(.ofNat 0, .ofNat 60)]), (6, [(.ofNat 0, .ofNat 59)])], [((5, .ofNat 1, .ofNat 0), (2, .negSucc 0, .ofNat 0), (6, .ofNat 1, .ofNat 0))], [])]
set_option maxRecDepth 1000000 in
theorem sg_il_a0_g : sg_go [] [22] 3000 11 0 1 4 [(0, [(.ofNat 0, .ofNat 0)]), (1, [(.ofNat 0, .ofNat 60)]), (2, [(.ofNat 1, .ofNat 20)]), (3, [(.ofNat 0, .ofNat 1000)])] [] [] [] [(0, .inr (.inl [64])), (1, .inr (.inl [114])), (2, .inl (false, (1, .ofNat 1, .ofNat 0))), (3, .inl (false, (2, .ofNat 1, .ofNat 0))), (4, .inl (false, (3, .ofNat 1, .ofNat 0)))] [] [] sg_il_a0_Z = true := by decide +kernel
set_option maxRecDepth 100000 in
theorem sg_il_a0 {Q : Option Value × am_S → Prop} {d : Nat} {S : am_S} {L : am_L} {x1 x2 x3 : Int} (hd : 1 ≤ d) (hP : ax_P0 none S) (l0 : lc L 0 64) (l1 : lc L 1 114) (l2 : li L 2 x1) (l3 : li L 3 x2) (l4 : li L 4 x3) (b1 : (0 ≤ x1 ∧ x1 ≤ 60)) (b2 : (1 ≤ x2 ∧ x2 ≤ 20)) (b3 : (0 ≤ x3 ∧ x3 ≤ 1000))
    (k0 : ∀ (x4 : Int) (i1 : Int32), rd S 64 0 = x4 → x4 ≠ x2 → (0 ≤ x1 ∧ x1 ≤ 60) → (1 ≤ x2 ∧ x2 ≤ 20) → (0 ≤ x3 ∧ x3 ≤ 1000) → (0 ≤ x4 ∧ x4 ≤ 30) → i1.toInt = 0 → Q (some (.int i1), S))
    (k1 : ∀ (x4 x5 x6 : Int) (i1 : Int32), rd S 64 0 = x4 → x4 = x2 → 0 ≤ x1 → rd S 114 0 = x5 → x6 < x1 → (0 ≤ x1 ∧ x1 ≤ 60) → (1 ≤ x2 ∧ x2 ≤ 20) → (0 ≤ x3 ∧ x3 ≤ 1000) → (1 ≤ x4 ∧ x4 ≤ 20) → (0 ≤ x5 ∧ x5 ≤ 60) → ((-20) ≤ x6 ∧ x6 ≤ 59) → x5 + ((-1) * x2 + 0) = x6 → i1.toInt = 0 → Q (some (.int i1), S))
    (k2 : ∀ (x4 x5 x6 : Int) (L' : am_L), rd S 64 0 = x4 → x4 = x2 → 0 ≤ x1 → rd S 114 0 = x5 → x1 ≤ x6 → (0 ≤ x1 ∧ x1 ≤ 59) → (1 ≤ x2 ∧ x2 ≤ 20) → (0 ≤ x3 ∧ x3 ≤ 1000) → (1 ≤ x4 ∧ x4 ≤ 20) → (0 ≤ x5 ∧ x5 ≤ 60) → (0 ≤ x6 ∧ x6 ≤ 59) → x5 + ((-1) * x2 + 0) = x6 → lc L' 0 64 → lc L' 1 114 → li L' 2 x1 → li L' 3 x2 → li L' 4 x3 → li L' 5 0 → am_V none d 11 22 L' ([]) S Q) : am_V none d 11 0 L ([]) S Q := by
  refine sg_use sg_il_a0_g hd hP (sg_xs [0, x1, x2, x3]) ⟨⟨Int.le_refl 0, Int.le_refl 0⟩, b1, b2, b3, trivial⟩ trivial trivial trivial ⟨l0, l1, l2, l3, l4, trivial⟩ trivial ?_
  intro z hz x' L' st' S' hx hP' hW hL' hs' hJ hE' hT' hD'
  have q1 : x' 1 = x1 := hx 1 (by decide)
  subst q1
  have q2 : x' 2 = x2 := hx 2 (by decide)
  subst q2
  have q3 : x' 3 = x3 := hx 3 (by decide)
  subst q3
  have eS : S' = S := hW.1 rfl
  subst eS
  simp only [sg_il_a0_Z, List.mem_cons, List.not_mem_nil, or_false] at hz
  rcases hz with rfl | rfl | rfl
  · obtain ⟨f0, f1, hσ⟩ := hJ
    obtain ⟨e0, e1, e2, e3, -⟩ := hE'
    intro v hv
    subst hv
    cases v with
    | none => exact hs'.elim
    | some v1 =>
      obtain ⟨⟨i1, rfl, g1⟩, -⟩ := hs'
      exact k0 (x' 4) i1 f0 f1 e0 e1 e2 e3 g1
  · obtain ⟨f0, f1, f2, f3, f4, -, hσ⟩ := hJ
    obtain ⟨e0, e1, e2, e3, e4, e5, -⟩ := hE'
    obtain ⟨t0, -⟩ := hT'
    intro v hv
    subst hv
    cases v with
    | none => exact hs'.elim
    | some v1 =>
      obtain ⟨⟨i1, rfl, g1⟩, -⟩ := hs'
      exact k1 (x' 4) (x' 5) (x' 6) i1 f0 f1 f2 f3 f4 e0 e1 e2 e3 e4 e5 t0 g1
  · obtain ⟨f0, f1, f2, f3, f4, -, hσ⟩ := hJ
    obtain ⟨e0, e1, e2, e3, e4, e5, -⟩ := hE'
    obtain ⟨t0, -⟩ := hT'
    obtain ⟨p0, p1, p2, p3, p4, p5, -⟩ := hL'
    obtain rfl := sg_tn hs'
    exact k2 (x' 4) (x' 5) (x' 6) L' f0 f1 f2 f3 f4 e0 e1 e2 e3 e4 e5 t0 p0 p1 p2 p3 p4 p5
def sg_il_b0_Z : List sg_z := [(0, [], [.inl (false, (0, .ofNat 0, .ofNat 1))], [(2, 3, (4, .ofNat 1, .ofNat 0), (2, .ofNat 1, .ofNat 0), (0, .ofNat 0, .ofNat 0))], [(1, [(.ofNat 0, .ofNat 60)]), (2, [(.ofNat 1, .ofNat 20)]), (3, [(.ofNat 0, .ofNat 1000)]), (4, [(.ofNat 1, .ofNat 20)])], [], []),
  (29, [(0, .inr (.inl [64])), (1, .inr (.inl [114])), (2, .inl (false, (1, .ofNat 1, .ofNat 0))), (3, .inl (false, (2, .ofNat 1, .ofNat 0))), (4, .inl (false, (3, .ofNat 1, .ofNat 0))), (5, .inl (false, (4, .ofNat 1, .ofNat 0)))], [], [(2, 2, (4, .ofNat 1, .ofNat 0), (2, .ofNat 1, .ofNat 0), (0, .ofNat 0, .ofNat 0))], [(1, [(.ofNat 0, .ofNat 60)]), (2, [(.ofNat 1, .ofNat 20)]), (3, [(.ofNat 0, .ofNat 1000)]), (4, [(.ofNat 0, .ofNat 19)])], [], [])]
set_option maxRecDepth 1000000 in
theorem sg_il_b0_g : sg_go [] [28] 3000 11 22 0 5 [(0, [(.ofNat 0, .ofNat 0)]), (1, [(.ofNat 0, .ofNat 60)]), (2, [(.ofNat 1, .ofNat 20)]), (3, [(.ofNat 0, .ofNat 1000)]), (4, [(.ofNat 0, .ofNat 20)])] [] [] [] [(0, .inr (.inl [64])), (1, .inr (.inl [114])), (2, .inl (false, (1, .ofNat 1, .ofNat 0))), (3, .inl (false, (2, .ofNat 1, .ofNat 0))), (4, .inl (false, (3, .ofNat 1, .ofNat 0))), (5, .inl (false, (4, .ofNat 1, .ofNat 0)))] [] [] sg_il_b0_Z = true := by decide +kernel
set_option maxRecDepth 100000 in
theorem sg_il_b0 {Q : Option Value × am_S → Prop} {d : Nat} {S : am_S} {L : am_L} {x1 x2 x3 x4 : Int} (hd : 0 ≤ d) (hP : ax_P0 none S) (l0 : lc L 0 64) (l1 : lc L 1 114) (l2 : li L 2 x1) (l3 : li L 3 x2) (l4 : li L 4 x3) (l5 : li L 5 x4) (b1 : (0 ≤ x1 ∧ x1 ≤ 60)) (b2 : (1 ≤ x2 ∧ x2 ≤ 20)) (b3 : (0 ≤ x3 ∧ x3 ≤ 1000)) (b4 : (0 ≤ x4 ∧ x4 ≤ 20))
    (k0 : ∀ (i1 : Int32), x2 ≤ x4 → (0 ≤ x1 ∧ x1 ≤ 60) → (1 ≤ x2 ∧ x2 ≤ 20) → (0 ≤ x3 ∧ x3 ≤ 1000) → (1 ≤ x4 ∧ x4 ≤ 20) → i1.toInt = 1 → Q (some (.int i1), S))
    (k1 : ∀ (L' : am_L), x4 < x2 → (0 ≤ x1 ∧ x1 ≤ 60) → (1 ≤ x2 ∧ x2 ≤ 20) → (0 ≤ x3 ∧ x3 ≤ 1000) → (0 ≤ x4 ∧ x4 ≤ 19) → lc L' 0 64 → lc L' 1 114 → li L' 2 x1 → li L' 3 x2 → li L' 4 x3 → li L' 5 x4 → am_V none d 11 28 L' ([]) S Q) : am_V none d 11 22 L ([]) S Q := by
  refine sg_use sg_il_b0_g hd hP (sg_xs [0, x1, x2, x3, x4]) ⟨⟨Int.le_refl 0, Int.le_refl 0⟩, b1, b2, b3, b4, trivial⟩ trivial trivial trivial ⟨l0, l1, l2, l3, l4, l5, trivial⟩ trivial ?_
  intro z hz x' L' st' S' hx hP' hW hL' hs' hJ hE' hT' hD'
  have q1 : x' 1 = x1 := hx 1 (by decide)
  subst q1
  have q2 : x' 2 = x2 := hx 2 (by decide)
  subst q2
  have q3 : x' 3 = x3 := hx 3 (by decide)
  subst q3
  have q4 : x' 4 = x4 := hx 4 (by decide)
  subst q4
  have eS : S' = S := hW.1 rfl
  subst eS
  simp only [sg_il_b0_Z, List.mem_cons, List.not_mem_nil, or_false] at hz
  rcases hz with rfl | rfl
  · obtain ⟨f0, hσ⟩ := hJ
    obtain ⟨e0, e1, e2, e3, -⟩ := hE'
    intro v hv
    subst hv
    cases v with
    | none => exact hs'.elim
    | some v1 =>
      obtain ⟨⟨i1, rfl, g1⟩, -⟩ := hs'
      exact k0 i1 f0 e0 e1 e2 e3 g1
  · obtain ⟨f0, hσ⟩ := hJ
    obtain ⟨e0, e1, e2, e3, -⟩ := hE'
    obtain ⟨p0, p1, p2, p3, p4, p5, -⟩ := hL'
    obtain rfl := sg_tn hs'
    exact k1 L' f0 e0 e1 e2 e3 p0 p1 p2 p3 p4 p5
def sg_il_c0_Z : List sg_z := [(23, [(0, .inr (.inl [64])), (1, .inr (.inl [114])), (2, .inl (false, (1, .ofNat 1, .ofNat 0))), (3, .inl (false, (2, .ofNat 1, .ofNat 0))), (4, .inl (false, (3, .ofNat 1, .ofNat 0))), (5, .inl (false, (4, .ofNat 1, .ofNat 1))), (6, .inl (true, (8, .ofNat 1, .ofNat 0)))], [], [(2, 5, (8, .ofNat 1, .ofNat 0), (3, .ofNat 1, .ofNat 0), (0, .ofNat 0, .ofNat 0)), (2, 3, (8, .ofNat 1, .ofNat 0), (0, .ofNat 0, .ofNat 0), (0, .ofNat 0, .ofNat 0)), (0, 115, (5, .ofNat 1, .ofNat 0), (7, .ofNat 1, .ofNat 0), (0, .ofNat 0, .ofNat 0)), (0, 65, (4, .ofNat 1, .ofNat 0), (6, .ofNat 1, .ofNat 0), (0, .ofNat 0, .ofNat 0))], [(1, [(.ofNat 0, .ofNat 60)]), (2, [(.ofNat 1, .ofNat 20)]), (3, [(.ofNat 0, .ofNat 1000)]), (4, [(.ofNat 0, .ofNat 19)]), (5, [(.ofNat 0, .ofNat 59)]), (8, [(.ofNat 0, .ofNat 1000)])], [((6, .ofNat 1, .ofNat 0), (7, .negSucc 0, .ofNat 0), (8, .ofNat 1, .ofNat 0)), ((1, .ofNat 1, .ofNat 0), (4, .ofNat 1, .ofNat 0), (5, .ofNat 1, .ofNat 0))], []),
  (0, [], [.inl (false, (0, .ofNat 0, .ofNat 0))], [(2, 4, (8, .ofNat 1, .ofNat 0), (3, .ofNat 1, .ofNat 0), (0, .ofNat 0, .ofNat 0)), (2, 3, (8, .ofNat 1, .ofNat 0), (0, .ofNat 0, .ofNat 0), (0, .ofNat 0, .ofNat 0)), (0, 115, (5, .ofNat 1, .ofNat 0), (7, .ofNat 1, .ofNat 0), (0, .ofNat 0, .ofNat 0)), (0, 65, (4, .ofNat 1, .ofNat 0), (6, .ofNat 1, .ofNat 0), (0, .ofNat 0, .ofNat 0))], [(1, [(.ofNat 0, .ofNat 60)]), (2, [(.ofNat 1, .ofNat 20)]), (3, [(.ofNat 0, .ofNat 1000)]), (4, [(.ofNat 0, .ofNat 19)]), (5, [(.ofNat 0, .ofNat 59)]), (8, [(.ofNat 1, .ofNat 4294967295)])], [((6, .ofNat 1, .ofNat 0), (7, .negSucc 0, .ofNat 0), (8, .ofNat 1, .ofNat 0)), ((1, .ofNat 1, .ofNat 0), (4, .ofNat 1, .ofNat 0), (5, .ofNat 1, .ofNat 0))], []),
  (23, [(0, .inr (.inl [64])), (1, .inr (.inl [114])), (2, .inl (false, (1, .ofNat 1, .ofNat 0))), (3, .inl (false, (2, .ofNat 1, .ofNat 0))), (4, .inl (false, (3, .ofNat 1, .ofNat 0))), (5, .inl (false, (4, .ofNat 1, .ofNat 1))), (6, .inl (true, (8, .ofNat 1, .ofNat 0)))], [], [(2, 5, (8, .negSucc 0, .ofNat 0), (3, .ofNat 1, .ofNat 0), (0, .ofNat 0, .ofNat 0)), (2, 2, (8, .ofNat 1, .ofNat 0), (0, .ofNat 0, .ofNat 0), (0, .ofNat 0, .ofNat 0)), (0, 115, (5, .ofNat 1, .ofNat 0), (7, .ofNat 1, .ofNat 0), (0, .ofNat 0, .ofNat 0)), (0, 65, (4, .ofNat 1, .ofNat 0), (6, .ofNat 1, .ofNat 0), (0, .ofNat 0, .ofNat 0))], [(1, [(.ofNat 0, .ofNat 60)]), (2, [(.ofNat 1, .ofNat 20)]), (3, [(.ofNat 1, .ofNat 1000)]), (4, [(.ofNat 0, .ofNat 19)]), (5, [(.ofNat 0, .ofNat 59)]), (8, [(.negSucc 999, .negSucc 0)])], [((6, .ofNat 1, .ofNat 0), (7, .negSucc 0, .ofNat 0), (8, .ofNat 1, .ofNat 0)), ((1, .ofNat 1, .ofNat 0), (4, .ofNat 1, .ofNat 0), (5, .ofNat 1, .ofNat 0))], []),
  (0, [], [.inl (false, (0, .ofNat 0, .ofNat 0))], [(2, 4, (8, .negSucc 0, .ofNat 0), (3, .ofNat 1, .ofNat 0), (0, .ofNat 0, .ofNat 0)), (2, 2, (8, .ofNat 1, .ofNat 0), (0, .ofNat 0, .ofNat 0), (0, .ofNat 0, .ofNat 0)), (0, 115, (5, .ofNat 1, .ofNat 0), (7, .ofNat 1, .ofNat 0), (0, .ofNat 0, .ofNat 0)), (0, 65, (4, .ofNat 1, .ofNat 0), (6, .ofNat 1, .ofNat 0), (0, .ofNat 0, .ofNat 0))], [(1, [(.ofNat 0, .ofNat 60)]), (2, [(.ofNat 1, .ofNat 20)]), (3, [(.ofNat 0, .ofNat 1000)]), (4, [(.ofNat 0, .ofNat 19)]), (5, [(.ofNat 0, .ofNat 59)]), (8, [(.negSucc 4294967294, .negSucc 0)])], [((6, .ofNat 1, .ofNat 0), (7, .negSucc 0, .ofNat 0), (8, .ofNat 1, .ofNat 0)), ((1, .ofNat 1, .ofNat 0), (4, .ofNat 1, .ofNat 0), (5, .ofNat 1, .ofNat 0))], [])]
set_option maxRecDepth 1000000 in
theorem sg_il_c0_g : sg_go [] [22] 3000 11 28 1 6 [(0, [(.ofNat 0, .ofNat 0)]), (1, [(.ofNat 0, .ofNat 60)]), (2, [(.ofNat 1, .ofNat 20)]), (3, [(.ofNat 0, .ofNat 1000)]), (4, [(.ofNat 0, .ofNat 19)]), (5, [(.ofNat 0, .ofNat 59)])] [] [((1, .ofNat 1, .ofNat 0), (4, .ofNat 1, .ofNat 0), (5, .ofNat 1, .ofNat 0))] [] [(0, .inr (.inl [64])), (1, .inr (.inl [114])), (2, .inl (false, (1, .ofNat 1, .ofNat 0))), (3, .inl (false, (2, .ofNat 1, .ofNat 0))), (4, .inl (false, (3, .ofNat 1, .ofNat 0))), (5, .inl (false, (4, .ofNat 1, .ofNat 0)))] [] [] sg_il_c0_Z = true := by decide +kernel
set_option maxRecDepth 100000 in
theorem sg_il_c0 {Q : Option Value × am_S → Prop} {d : Nat} {S : am_S} {L : am_L} {x1 x2 x3 x4 x5 : Int} (hd : 1 ≤ d) (hP : ax_P0 none S) (l0 : lc L 0 64) (l1 : lc L 1 114) (l2 : li L 2 x1) (l3 : li L 3 x2) (l4 : li L 4 x3) (l5 : li L 5 x4) (b1 : (0 ≤ x1 ∧ x1 ≤ 60)) (b2 : (1 ≤ x2 ∧ x2 ≤ 20)) (b3 : (0 ≤ x3 ∧ x3 ≤ 1000)) (b4 : (0 ≤ x4 ∧ x4 ≤ 19)) (b5 : (0 ≤ x5 ∧ x5 ≤ 59)) (t0 : x1 + x4 = x5)
    (k0 : ∀ (x6 x7 x8 : Int) (L' : am_L), rd S 65 x4 = x6 → rd S 115 x5 = x7 → 0 ≤ x8 → x8 ≤ x3 → (0 ≤ x1 ∧ x1 ≤ 60) → (1 ≤ x2 ∧ x2 ≤ 20) → (0 ≤ x3 ∧ x3 ≤ 1000) → (0 ≤ x4 ∧ x4 ≤ 19) → (0 ≤ x5 ∧ x5 ≤ 59) → (0 ≤ x8 ∧ x8 ≤ 1000) → x6 + ((-1) * x7 + 0) = x8 → x1 + x4 = x5 → lc L' 0 64 → lc L' 1 114 → li L' 2 x1 → li L' 3 x2 → li L' 4 x3 → li L' 5 (x4 + 1) → lj L' 6 x8 → am_V none d 11 22 L' ([]) S Q)
    (k1 : ∀ (x6 x7 x8 : Int) (i1 : Int32), rd S 65 x4 = x6 → rd S 115 x5 = x7 → 0 ≤ x8 → x3 < x8 → (0 ≤ x1 ∧ x1 ≤ 60) → (1 ≤ x2 ∧ x2 ≤ 20) → (0 ≤ x3 ∧ x3 ≤ 1000) → (0 ≤ x4 ∧ x4 ≤ 19) → (0 ≤ x5 ∧ x5 ≤ 59) → (1 ≤ x8 ∧ x8 ≤ 4294967295) → x6 + ((-1) * x7 + 0) = x8 → x1 + x4 = x5 → i1.toInt = 0 → Q (some (.int i1), S))
    (k2 : ∀ (x6 x7 x8 : Int) (L' : am_L), rd S 65 x4 = x6 → rd S 115 x5 = x7 → x8 < 0 → (-1) * x8 + 0 ≤ x3 → (0 ≤ x1 ∧ x1 ≤ 60) → (1 ≤ x2 ∧ x2 ≤ 20) → (1 ≤ x3 ∧ x3 ≤ 1000) → (0 ≤ x4 ∧ x4 ≤ 19) → (0 ≤ x5 ∧ x5 ≤ 59) → ((-1000) ≤ x8 ∧ x8 ≤ (-1)) → x6 + ((-1) * x7 + 0) = x8 → x1 + x4 = x5 → lc L' 0 64 → lc L' 1 114 → li L' 2 x1 → li L' 3 x2 → li L' 4 x3 → li L' 5 (x4 + 1) → lj L' 6 x8 → am_V none d 11 22 L' ([]) S Q)
    (k3 : ∀ (x6 x7 x8 : Int) (i1 : Int32), rd S 65 x4 = x6 → rd S 115 x5 = x7 → x8 < 0 → x3 < (-1) * x8 + 0 → (0 ≤ x1 ∧ x1 ≤ 60) → (1 ≤ x2 ∧ x2 ≤ 20) → (0 ≤ x3 ∧ x3 ≤ 1000) → (0 ≤ x4 ∧ x4 ≤ 19) → (0 ≤ x5 ∧ x5 ≤ 59) → ((-4294967295) ≤ x8 ∧ x8 ≤ (-1)) → x6 + ((-1) * x7 + 0) = x8 → x1 + x4 = x5 → i1.toInt = 0 → Q (some (.int i1), S)) : am_V none d 11 28 L ([]) S Q := by
  refine sg_use sg_il_c0_g hd hP (sg_xs [0, x1, x2, x3, x4, x5]) ⟨⟨Int.le_refl 0, Int.le_refl 0⟩, b1, b2, b3, b4, b5, trivial⟩ trivial ⟨t0, trivial⟩ trivial ⟨l0, l1, l2, l3, l4, l5, trivial⟩ trivial ?_
  intro z hz x' L' st' S' hx hP' hW hL' hs' hJ hE' hT' hD'
  have q1 : x' 1 = x1 := hx 1 (by decide)
  subst q1
  have q2 : x' 2 = x2 := hx 2 (by decide)
  subst q2
  have q3 : x' 3 = x3 := hx 3 (by decide)
  subst q3
  have q4 : x' 4 = x4 := hx 4 (by decide)
  subst q4
  have q5 : x' 5 = x5 := hx 5 (by decide)
  subst q5
  have eS : S' = S := hW.1 rfl
  subst eS
  simp only [sg_il_c0_Z, List.mem_cons, List.not_mem_nil, or_false] at hz
  rcases hz with rfl | rfl | rfl | rfl
  · obtain ⟨f0, f1, f2, f3, hσ⟩ := hJ
    obtain ⟨e0, e1, e2, e3, e4, e5, -⟩ := hE'
    obtain ⟨t0, t1, -⟩ := hT'
    obtain ⟨p0, p1, p2, p3, p4, p5, p6, -⟩ := hL'
    obtain rfl := sg_tn hs'
    exact k0 (x' 6) (x' 7) (x' 8) L' f0 f1 f2 f3 e0 e1 e2 e3 e4 e5 t0 t1 p0 p1 p2 p3 p4 p5 p6
  · obtain ⟨f0, f1, f2, f3, hσ⟩ := hJ
    obtain ⟨e0, e1, e2, e3, e4, e5, -⟩ := hE'
    obtain ⟨t0, t1, -⟩ := hT'
    intro v hv
    subst hv
    cases v with
    | none => exact hs'.elim
    | some v1 =>
      obtain ⟨⟨i1, rfl, g1⟩, -⟩ := hs'
      exact k1 (x' 6) (x' 7) (x' 8) i1 f0 f1 f2 f3 e0 e1 e2 e3 e4 e5 t0 t1 g1
  · obtain ⟨f0, f1, f2, f3, hσ⟩ := hJ
    obtain ⟨e0, e1, e2, e3, e4, e5, -⟩ := hE'
    obtain ⟨t0, t1, -⟩ := hT'
    obtain ⟨p0, p1, p2, p3, p4, p5, p6, -⟩ := hL'
    obtain rfl := sg_tn hs'
    exact k2 (x' 6) (x' 7) (x' 8) L' f0 f1 f2 f3 e0 e1 e2 e3 e4 e5 t0 t1 p0 p1 p2 p3 p4 p5 p6
  · obtain ⟨f0, f1, f2, f3, hσ⟩ := hJ
    obtain ⟨e0, e1, e2, e3, e4, e5, -⟩ := hE'
    obtain ⟨t0, t1, -⟩ := hT'
    intro v hv
    subst hv
    cases v with
    | none => exact hs'.elim
    | some v1 =>
      obtain ⟨⟨i1, rfl, g1⟩, -⟩ := hs'
      exact k3 (x' 6) (x' 7) (x' 8) i1 f0 f1 f2 f3 e0 e1 e2 e3 e4 e5 t0 t1 g1
def sg_mh_x41_Z : List sg_z := [(168, [(0, .inr (.inl [0])), (1, .inl (false, (0, .ofNat 0, .ofNat 1))), (3, .inl (false, (2, .ofNat 1, .ofNat 0))), (4, .inl (false, (3, .ofNat 1, .ofNat 0))), (5, .inl (false, (4, .ofNat 1, .ofNat 0))), (7, .inl (false, (5, .ofNat 1, .ofNat 0))), (8, .inl (false, (6, .ofNat 1, .ofNat 0))), (9, .inl (false, (7, .ofNat 1, .ofNat 0)))], [.inl (false, (4, .ofNat 1, .ofNat 0)), .inl (false, (3, .ofNat 1, .ofNat 0)), .inl (false, (2, .ofNat 1, .ofNat 0)), .inr (.inl [116]), .inr (.inl [64]), .inl (false, (5, .ofNat 1, .ofNat 0))], [], [(1, [(.ofNat 1, .ofNat 1)]), (2, [(.ofNat 0, .ofNat 60)]), (3, [(.ofNat 1, .ofNat 20)]), (4, [(.ofNat 0, .ofNat 1000)]), (5, [(.ofNat 0, .ofNat 64)]), (6, [(.ofNat 0, .ofNat 7)]), (7, [(.ofNat 0, .ofNat 7)])], [], [])]
set_option maxRecDepth 1000000 in
theorem sg_mh_x41_g : sg_go [] [167] 3000 129 150 0 8 [(0, [(.ofNat 0, .ofNat 0)]), (1, [(.ofNat 1, .ofNat 1)]), (2, [(.ofNat 0, .ofNat 60)]), (3, [(.ofNat 1, .ofNat 20)]), (4, [(.ofNat 0, .ofNat 1000)]), (5, [(.ofNat 0, .ofNat 64)]), (6, [(.ofNat 0, .ofNat 7)]), (7, [(.ofNat 0, .ofNat 7)])] [] [] [] [(0, .inr (.inl [0])), (1, .inl (false, (1, .ofNat 1, .ofNat 0))), (3, .inl (false, (2, .ofNat 1, .ofNat 0))), (4, .inl (false, (3, .ofNat 1, .ofNat 0))), (5, .inl (false, (4, .ofNat 1, .ofNat 0))), (7, .inl (false, (5, .ofNat 1, .ofNat 0))), (8, .inl (false, (6, .ofNat 1, .ofNat 0))), (9, .inl (false, (7, .ofNat 1, .ofNat 0)))] [] [] sg_mh_x41_Z = true := by decide +kernel
set_option maxRecDepth 100000 in
theorem sg_mh_x41 {Q : Option Value × am_S → Prop} {d : Nat} {S : am_S} {L : am_L} {x1 x2 x3 x4 x5 x6 x7 : Int} (hd : 0 ≤ d) (hP : ax_P0 none S) (l0 : lc L 0 0) (l1 : li L 1 x1) (l3 : li L 3 x2) (l4 : li L 4 x3) (l5 : li L 5 x4) (l7 : li L 7 x5) (l8 : li L 8 x6) (l9 : li L 9 x7) (b1 : (1 ≤ x1 ∧ x1 ≤ 1)) (b2 : (0 ≤ x2 ∧ x2 ≤ 60)) (b3 : (1 ≤ x3 ∧ x3 ≤ 20)) (b4 : (0 ≤ x4 ∧ x4 ≤ 1000)) (b5 : (0 ≤ x5 ∧ x5 ≤ 64)) (b6 : (0 ≤ x6 ∧ x6 ≤ 7)) (b7 : (0 ≤ x7 ∧ x7 ≤ 7))
    (k0 : ∀ (L' : am_L) (i1 : Int32) (i2 : Int32) (i3 : Int32) (i6 : Int32), (1 ≤ x1 ∧ x1 ≤ 1) → (0 ≤ x2 ∧ x2 ≤ 60) → (1 ≤ x3 ∧ x3 ≤ 20) → (0 ≤ x4 ∧ x4 ≤ 1000) → (0 ≤ x5 ∧ x5 ≤ 64) → (0 ≤ x6 ∧ x6 ≤ 7) → (0 ≤ x7 ∧ x7 ≤ 7) → lc L' 0 0 → li L' 1 1 → li L' 3 x2 → li L' 4 x3 → li L' 5 x4 → li L' 7 x5 → li L' 8 x6 → li L' 9 x7 → i1.toInt = x4 → i2.toInt = x3 → i3.toInt = x2 → i6.toInt = x5 → am_V none d 129 167 L' ((.int i1) :: (.int i2) :: (.int i3) :: (.ref 116) :: (.ref 64) :: (.int i6) :: []) S Q) : am_V none d 129 150 L ([]) S Q := by
  refine sg_use sg_mh_x41_g hd hP (sg_xs [0, x1, x2, x3, x4, x5, x6, x7]) ⟨⟨Int.le_refl 0, Int.le_refl 0⟩, b1, b2, b3, b4, b5, b6, b7, trivial⟩ trivial trivial trivial ⟨l0, l1, l3, l4, l5, l7, l8, l9, trivial⟩ trivial ?_
  intro z hz x' L' st' S' hx hP' hW hL' hs' hJ hE' hT' hD'
  have q1 : x' 1 = x1 := hx 1 (by decide)
  subst q1
  have q2 : x' 2 = x2 := hx 2 (by decide)
  subst q2
  have q3 : x' 3 = x3 := hx 3 (by decide)
  subst q3
  have q4 : x' 4 = x4 := hx 4 (by decide)
  subst q4
  have q5 : x' 5 = x5 := hx 5 (by decide)
  subst q5
  have q6 : x' 6 = x6 := hx 6 (by decide)
  subst q6
  have q7 : x' 7 = x7 := hx 7 (by decide)
  subst q7
  have eS : S' = S := hW.1 rfl
  subst eS
  simp only [sg_mh_x41_Z, List.mem_cons, List.not_mem_nil, or_false] at hz
  rcases hz with rfl
  · have hσ := hJ
    obtain ⟨e0, e1, e2, e3, e4, e5, e6, -⟩ := hE'
    obtain ⟨p0, p1, p2, p3, p4, p5, p6, p7, -⟩ := hL'
    obtain ⟨v1, r1, rfl, ⟨i1, rfl, g1⟩, hs1⟩ := sg_tc hs'
    obtain ⟨v2, r2, rfl, ⟨i2, rfl, g2⟩, hs2⟩ := sg_tc hs1
    obtain ⟨v3, r3, rfl, ⟨i3, rfl, g3⟩, hs3⟩ := sg_tc hs2
    obtain ⟨v4, r4, rfl, rfl, hs4⟩ := sg_tc hs3
    obtain ⟨v5, r5, rfl, rfl, hs5⟩ := sg_tc hs4
    obtain ⟨v6, r6, rfl, ⟨i6, rfl, g6⟩, hs6⟩ := sg_tc hs5
    obtain rfl := sg_tn hs6
    exact k0 L' i1 i2 i3 i6 e0 e1 e2 e3 e4 e5 e6 p0 p1 p2 p3 p4 p5 p6 p7 g1 g2 g3 g6
def sg_il_a1_Z : List sg_z := [(0, [], [.inl (false, (0, .ofNat 0, .ofNat 0))], [(2, 1, (4, .ofNat 1, .ofNat 0), (2, .ofNat 1, .ofNat 0), (0, .ofNat 0, .ofNat 0)), (0, 64, (0, .ofNat 0, .ofNat 0), (4, .ofNat 1, .ofNat 0), (0, .ofNat 0, .ofNat 0))], [(1, [(.ofNat 0, .ofNat 60)]), (2, [(.ofNat 1, .ofNat 20)]), (3, [(.ofNat 0, .ofNat 1000)]), (4, [(.ofNat 0, .ofNat 30)])], [], []),
  (0, [], [.inl (false, (0, .ofNat 0, .ofNat 0))], [(2, 0, (0, .ofNat 0, .ofNat 0), (0, .ofNat 0, .ofNat 0), (0, .ofNat 0, .ofNat 0)), (2, 4, (1, .ofNat 1, .ofNat 0), (6, .ofNat 1, .ofNat 0), (0, .ofNat 0, .ofNat 0)), (0, 116, (0, .ofNat 0, .ofNat 0), (5, .ofNat 1, .ofNat 0), (0, .ofNat 0, .ofNat 0)), (2, 3, (1, .ofNat 1, .ofNat 0), (0, .ofNat 0, .ofNat 0), (0, .ofNat 0, .ofNat 0)), (2, 0, (4, .ofNat 1, .ofNat 0), (2, .ofNat 1, .ofNat 0), (0, .ofNat 0, .ofNat 0)), (0, 64, (0, .ofNat 0, .ofNat 0), (4, .ofNat 1, .ofNat 0), (0, .ofNat 0, .ofNat 0))], [(1, [(.ofNat 0, .ofNat 60)]), (2, [(.ofNat 1, .ofNat 20)]), (3, [(.ofNat 0, .ofNat 1000)]), (4, [(.ofNat 1, .ofNat 20)]), (5, [(.ofNat 0, .ofNat 60)]), (6, [(.negSucc 19, .ofNat 59)])], [((5, .ofNat 1, .ofNat 0), (2, .negSucc 0, .ofNat 0), (6, .ofNat 1, .ofNat 0))], []),
  (23, [(0, .inr (.inl [64])), (1, .inr (.inl [116])), (2, .inl (false, (1, .ofNat 1, .ofNat 0))), (3, .inl (false, (2, .ofNat 1, .ofNat 0))), (4, .inl (false, (3, .ofNat 1, .ofNat 0))), (5, .inl (false, (0, .ofNat 0, .ofNat 0)))], [], [(2, 1, (0, .ofNat 0, .ofNat 1), (0, .ofNat 0, .ofNat 0), (0, .ofNat 0, .ofNat 0)), (2, 5, (1, .ofNat 1, .ofNat 0), (6, .ofNat 1, .ofNat 0), (0, .ofNat 0, .ofNat 0)), (0, 116, (0, .ofNat 0, .ofNat 0), (5, .ofNat 1, .ofNat 0), (0, .ofNat 0, .ofNat 0)), (2, 3, (1, .ofNat 1, .ofNat 0), (0, .ofNat 0, .ofNat 0), (0, .ofNat 0, .ofNat 0)), (2, 0, (4, .ofNat 1, .ofNat 0), (2, .ofNat 1, .ofNat 0), (0, .ofNat 0, .ofNat 0)), (0, 64, (0, .ofNat 0, .ofNat 0), (4, .ofNat 1, .ofNat 0), (0, .ofNat 0, .ofNat 0))], [(1, [(.ofNat 0, .ofNat 59)]), (2, [(.ofNat 1, .ofNat 20)]), (3, [(.ofNat 0, .ofNat 1000)]), (4, [(.ofNat 1, .ofNat 20)]), (5, [(.ofNat 0, .ofNat 60)]), (6, [(.ofNat 0, .ofNat 59)])], [((5, .ofNat 1, .ofNat 0), (2, .negSucc 0, .ofNat 0), (6, .ofNat 1, .ofNat 0))], [])]
set_option maxRecDepth 1000000 in
theorem sg_il_a1_g : sg_go [] [22] 3000 11 0 1 4 [(0, [(.ofNat 0, .ofNat 0)]), (1, [(.ofNat 0, .ofNat 60)]), (2, [(.ofNat 1, .ofNat 20)]), (3, [(.ofNat 0, .ofNat 1000)])] [] [] [] [(0, .inr (.inl [64])), (1, .inr (.inl [116])), (2, .inl (false, (1, .ofNat 1, .ofNat 0))), (3, .inl (false, (2, .ofNat 1, .ofNat 0))), (4, .inl (false, (3, .ofNat 1, .ofNat 0)))] [] [] sg_il_a1_Z = true := by decide +kernel
set_option maxRecDepth 100000 in
theorem sg_il_a1 {Q : Option Value × am_S → Prop} {d : Nat} {S : am_S} {L : am_L} {x1 x2 x3 : Int} (hd : 1 ≤ d) (hP : ax_P0 none S) (l0 : lc L 0 64) (l1 : lc L 1 116) (l2 : li L 2 x1) (l3 : li L 3 x2) (l4 : li L 4 x3) (b1 : (0 ≤ x1 ∧ x1 ≤ 60)) (b2 : (1 ≤ x2 ∧ x2 ≤ 20)) (b3 : (0 ≤ x3 ∧ x3 ≤ 1000))
    (k0 : ∀ (x4 : Int) (i1 : Int32), rd S 64 0 = x4 → x4 ≠ x2 → (0 ≤ x1 ∧ x1 ≤ 60) → (1 ≤ x2 ∧ x2 ≤ 20) → (0 ≤ x3 ∧ x3 ≤ 1000) → (0 ≤ x4 ∧ x4 ≤ 30) → i1.toInt = 0 → Q (some (.int i1), S))
    (k1 : ∀ (x4 x5 x6 : Int) (i1 : Int32), rd S 64 0 = x4 → x4 = x2 → 0 ≤ x1 → rd S 116 0 = x5 → x6 < x1 → (0 ≤ x1 ∧ x1 ≤ 60) → (1 ≤ x2 ∧ x2 ≤ 20) → (0 ≤ x3 ∧ x3 ≤ 1000) → (1 ≤ x4 ∧ x4 ≤ 20) → (0 ≤ x5 ∧ x5 ≤ 60) → ((-20) ≤ x6 ∧ x6 ≤ 59) → x5 + ((-1) * x2 + 0) = x6 → i1.toInt = 0 → Q (some (.int i1), S))
    (k2 : ∀ (x4 x5 x6 : Int) (L' : am_L), rd S 64 0 = x4 → x4 = x2 → 0 ≤ x1 → rd S 116 0 = x5 → x1 ≤ x6 → (0 ≤ x1 ∧ x1 ≤ 59) → (1 ≤ x2 ∧ x2 ≤ 20) → (0 ≤ x3 ∧ x3 ≤ 1000) → (1 ≤ x4 ∧ x4 ≤ 20) → (0 ≤ x5 ∧ x5 ≤ 60) → (0 ≤ x6 ∧ x6 ≤ 59) → x5 + ((-1) * x2 + 0) = x6 → lc L' 0 64 → lc L' 1 116 → li L' 2 x1 → li L' 3 x2 → li L' 4 x3 → li L' 5 0 → am_V none d 11 22 L' ([]) S Q) : am_V none d 11 0 L ([]) S Q := by
  refine sg_use sg_il_a1_g hd hP (sg_xs [0, x1, x2, x3]) ⟨⟨Int.le_refl 0, Int.le_refl 0⟩, b1, b2, b3, trivial⟩ trivial trivial trivial ⟨l0, l1, l2, l3, l4, trivial⟩ trivial ?_
  intro z hz x' L' st' S' hx hP' hW hL' hs' hJ hE' hT' hD'
  have q1 : x' 1 = x1 := hx 1 (by decide)
  subst q1
  have q2 : x' 2 = x2 := hx 2 (by decide)
  subst q2
  have q3 : x' 3 = x3 := hx 3 (by decide)
  subst q3
  have eS : S' = S := hW.1 rfl
  subst eS
  simp only [sg_il_a1_Z, List.mem_cons, List.not_mem_nil, or_false] at hz
  rcases hz with rfl | rfl | rfl
  · obtain ⟨f0, f1, hσ⟩ := hJ
    obtain ⟨e0, e1, e2, e3, -⟩ := hE'
    intro v hv
    subst hv
    cases v with
    | none => exact hs'.elim
    | some v1 =>
      obtain ⟨⟨i1, rfl, g1⟩, -⟩ := hs'
      exact k0 (x' 4) i1 f0 f1 e0 e1 e2 e3 g1
  · obtain ⟨f0, f1, f2, f3, f4, -, hσ⟩ := hJ
    obtain ⟨e0, e1, e2, e3, e4, e5, -⟩ := hE'
    obtain ⟨t0, -⟩ := hT'
    intro v hv
    subst hv
    cases v with
    | none => exact hs'.elim
    | some v1 =>
      obtain ⟨⟨i1, rfl, g1⟩, -⟩ := hs'
      exact k1 (x' 4) (x' 5) (x' 6) i1 f0 f1 f2 f3 f4 e0 e1 e2 e3 e4 e5 t0 g1
  · obtain ⟨f0, f1, f2, f3, f4, -, hσ⟩ := hJ
    obtain ⟨e0, e1, e2, e3, e4, e5, -⟩ := hE'
    obtain ⟨t0, -⟩ := hT'
    obtain ⟨p0, p1, p2, p3, p4, p5, -⟩ := hL'
    obtain rfl := sg_tn hs'
    exact k2 (x' 4) (x' 5) (x' 6) L' f0 f1 f2 f3 f4 e0 e1 e2 e3 e4 e5 t0 p0 p1 p2 p3 p4 p5
def sg_il_b1_Z : List sg_z := [(0, [], [.inl (false, (0, .ofNat 0, .ofNat 1))], [(2, 3, (4, .ofNat 1, .ofNat 0), (2, .ofNat 1, .ofNat 0), (0, .ofNat 0, .ofNat 0))], [(1, [(.ofNat 0, .ofNat 60)]), (2, [(.ofNat 1, .ofNat 20)]), (3, [(.ofNat 0, .ofNat 1000)]), (4, [(.ofNat 1, .ofNat 20)])], [], []),
  (29, [(0, .inr (.inl [64])), (1, .inr (.inl [116])), (2, .inl (false, (1, .ofNat 1, .ofNat 0))), (3, .inl (false, (2, .ofNat 1, .ofNat 0))), (4, .inl (false, (3, .ofNat 1, .ofNat 0))), (5, .inl (false, (4, .ofNat 1, .ofNat 0)))], [], [(2, 2, (4, .ofNat 1, .ofNat 0), (2, .ofNat 1, .ofNat 0), (0, .ofNat 0, .ofNat 0))], [(1, [(.ofNat 0, .ofNat 60)]), (2, [(.ofNat 1, .ofNat 20)]), (3, [(.ofNat 0, .ofNat 1000)]), (4, [(.ofNat 0, .ofNat 19)])], [], [])]
set_option maxRecDepth 1000000 in
theorem sg_il_b1_g : sg_go [] [28] 3000 11 22 0 5 [(0, [(.ofNat 0, .ofNat 0)]), (1, [(.ofNat 0, .ofNat 60)]), (2, [(.ofNat 1, .ofNat 20)]), (3, [(.ofNat 0, .ofNat 1000)]), (4, [(.ofNat 0, .ofNat 20)])] [] [] [] [(0, .inr (.inl [64])), (1, .inr (.inl [116])), (2, .inl (false, (1, .ofNat 1, .ofNat 0))), (3, .inl (false, (2, .ofNat 1, .ofNat 0))), (4, .inl (false, (3, .ofNat 1, .ofNat 0))), (5, .inl (false, (4, .ofNat 1, .ofNat 0)))] [] [] sg_il_b1_Z = true := by decide +kernel
set_option maxRecDepth 100000 in
theorem sg_il_b1 {Q : Option Value × am_S → Prop} {d : Nat} {S : am_S} {L : am_L} {x1 x2 x3 x4 : Int} (hd : 0 ≤ d) (hP : ax_P0 none S) (l0 : lc L 0 64) (l1 : lc L 1 116) (l2 : li L 2 x1) (l3 : li L 3 x2) (l4 : li L 4 x3) (l5 : li L 5 x4) (b1 : (0 ≤ x1 ∧ x1 ≤ 60)) (b2 : (1 ≤ x2 ∧ x2 ≤ 20)) (b3 : (0 ≤ x3 ∧ x3 ≤ 1000)) (b4 : (0 ≤ x4 ∧ x4 ≤ 20))
    (k0 : ∀ (i1 : Int32), x2 ≤ x4 → (0 ≤ x1 ∧ x1 ≤ 60) → (1 ≤ x2 ∧ x2 ≤ 20) → (0 ≤ x3 ∧ x3 ≤ 1000) → (1 ≤ x4 ∧ x4 ≤ 20) → i1.toInt = 1 → Q (some (.int i1), S))
    (k1 : ∀ (L' : am_L), x4 < x2 → (0 ≤ x1 ∧ x1 ≤ 60) → (1 ≤ x2 ∧ x2 ≤ 20) → (0 ≤ x3 ∧ x3 ≤ 1000) → (0 ≤ x4 ∧ x4 ≤ 19) → lc L' 0 64 → lc L' 1 116 → li L' 2 x1 → li L' 3 x2 → li L' 4 x3 → li L' 5 x4 → am_V none d 11 28 L' ([]) S Q) : am_V none d 11 22 L ([]) S Q := by
  refine sg_use sg_il_b1_g hd hP (sg_xs [0, x1, x2, x3, x4]) ⟨⟨Int.le_refl 0, Int.le_refl 0⟩, b1, b2, b3, b4, trivial⟩ trivial trivial trivial ⟨l0, l1, l2, l3, l4, l5, trivial⟩ trivial ?_
  intro z hz x' L' st' S' hx hP' hW hL' hs' hJ hE' hT' hD'
  have q1 : x' 1 = x1 := hx 1 (by decide)
  subst q1
  have q2 : x' 2 = x2 := hx 2 (by decide)
  subst q2
  have q3 : x' 3 = x3 := hx 3 (by decide)
  subst q3
  have q4 : x' 4 = x4 := hx 4 (by decide)
  subst q4
  have eS : S' = S := hW.1 rfl
  subst eS
  simp only [sg_il_b1_Z, List.mem_cons, List.not_mem_nil, or_false] at hz
  rcases hz with rfl | rfl
  · obtain ⟨f0, hσ⟩ := hJ
    obtain ⟨e0, e1, e2, e3, -⟩ := hE'
    intro v hv
    subst hv
    cases v with
    | none => exact hs'.elim
    | some v1 =>
      obtain ⟨⟨i1, rfl, g1⟩, -⟩ := hs'
      exact k0 i1 f0 e0 e1 e2 e3 g1
  · obtain ⟨f0, hσ⟩ := hJ
    obtain ⟨e0, e1, e2, e3, -⟩ := hE'
    obtain ⟨p0, p1, p2, p3, p4, p5, -⟩ := hL'
    obtain rfl := sg_tn hs'
    exact k1 L' f0 e0 e1 e2 e3 p0 p1 p2 p3 p4 p5
def sg_il_c1_Z : List sg_z := [(23, [(0, .inr (.inl [64])), (1, .inr (.inl [116])), (2, .inl (false, (1, .ofNat 1, .ofNat 0))), (3, .inl (false, (2, .ofNat 1, .ofNat 0))), (4, .inl (false, (3, .ofNat 1, .ofNat 0))), (5, .inl (false, (4, .ofNat 1, .ofNat 1))), (6, .inl (true, (8, .ofNat 1, .ofNat 0)))], [], [(2, 5, (8, .ofNat 1, .ofNat 0), (3, .ofNat 1, .ofNat 0), (0, .ofNat 0, .ofNat 0)), (2, 3, (8, .ofNat 1, .ofNat 0), (0, .ofNat 0, .ofNat 0), (0, .ofNat 0, .ofNat 0)), (0, 117, (5, .ofNat 1, .ofNat 0), (7, .ofNat 1, .ofNat 0), (0, .ofNat 0, .ofNat 0)), (0, 65, (4, .ofNat 1, .ofNat 0), (6, .ofNat 1, .ofNat 0), (0, .ofNat 0, .ofNat 0))], [(1, [(.ofNat 0, .ofNat 60)]), (2, [(.ofNat 1, .ofNat 20)]), (3, [(.ofNat 0, .ofNat 1000)]), (4, [(.ofNat 0, .ofNat 19)]), (5, [(.ofNat 0, .ofNat 59)]), (8, [(.ofNat 0, .ofNat 1000)])], [((6, .ofNat 1, .ofNat 0), (7, .negSucc 0, .ofNat 0), (8, .ofNat 1, .ofNat 0)), ((1, .ofNat 1, .ofNat 0), (4, .ofNat 1, .ofNat 0), (5, .ofNat 1, .ofNat 0))], []),
  (0, [], [.inl (false, (0, .ofNat 0, .ofNat 0))], [(2, 4, (8, .ofNat 1, .ofNat 0), (3, .ofNat 1, .ofNat 0), (0, .ofNat 0, .ofNat 0)), (2, 3, (8, .ofNat 1, .ofNat 0), (0, .ofNat 0, .ofNat 0), (0, .ofNat 0, .ofNat 0)), (0, 117, (5, .ofNat 1, .ofNat 0), (7, .ofNat 1, .ofNat 0), (0, .ofNat 0, .ofNat 0)), (0, 65, (4, .ofNat 1, .ofNat 0), (6, .ofNat 1, .ofNat 0), (0, .ofNat 0, .ofNat 0))], [(1, [(.ofNat 0, .ofNat 60)]), (2, [(.ofNat 1, .ofNat 20)]), (3, [(.ofNat 0, .ofNat 1000)]), (4, [(.ofNat 0, .ofNat 19)]), (5, [(.ofNat 0, .ofNat 59)]), (8, [(.ofNat 1, .ofNat 4294967295)])], [((6, .ofNat 1, .ofNat 0), (7, .negSucc 0, .ofNat 0), (8, .ofNat 1, .ofNat 0)), ((1, .ofNat 1, .ofNat 0), (4, .ofNat 1, .ofNat 0), (5, .ofNat 1, .ofNat 0))], []),
  (23, [(0, .inr (.inl [64])), (1, .inr (.inl [116])), (2, .inl (false, (1, .ofNat 1, .ofNat 0))), (3, .inl (false, (2, .ofNat 1, .ofNat 0))), (4, .inl (false, (3, .ofNat 1, .ofNat 0))), (5, .inl (false, (4, .ofNat 1, .ofNat 1))), (6, .inl (true, (8, .ofNat 1, .ofNat 0)))], [], [(2, 5, (8, .negSucc 0, .ofNat 0), (3, .ofNat 1, .ofNat 0), (0, .ofNat 0, .ofNat 0)), (2, 2, (8, .ofNat 1, .ofNat 0), (0, .ofNat 0, .ofNat 0), (0, .ofNat 0, .ofNat 0)), (0, 117, (5, .ofNat 1, .ofNat 0), (7, .ofNat 1, .ofNat 0), (0, .ofNat 0, .ofNat 0)), (0, 65, (4, .ofNat 1, .ofNat 0), (6, .ofNat 1, .ofNat 0), (0, .ofNat 0, .ofNat 0))], [(1, [(.ofNat 0, .ofNat 60)]), (2, [(.ofNat 1, .ofNat 20)]), (3, [(.ofNat 1, .ofNat 1000)]), (4, [(.ofNat 0, .ofNat 19)]), (5, [(.ofNat 0, .ofNat 59)]), (8, [(.negSucc 999, .negSucc 0)])], [((6, .ofNat 1, .ofNat 0), (7, .negSucc 0, .ofNat 0), (8, .ofNat 1, .ofNat 0)), ((1, .ofNat 1, .ofNat 0), (4, .ofNat 1, .ofNat 0), (5, .ofNat 1, .ofNat 0))], []),
  (0, [], [.inl (false, (0, .ofNat 0, .ofNat 0))], [(2, 4, (8, .negSucc 0, .ofNat 0), (3, .ofNat 1, .ofNat 0), (0, .ofNat 0, .ofNat 0)), (2, 2, (8, .ofNat 1, .ofNat 0), (0, .ofNat 0, .ofNat 0), (0, .ofNat 0, .ofNat 0)), (0, 117, (5, .ofNat 1, .ofNat 0), (7, .ofNat 1, .ofNat 0), (0, .ofNat 0, .ofNat 0)), (0, 65, (4, .ofNat 1, .ofNat 0), (6, .ofNat 1, .ofNat 0), (0, .ofNat 0, .ofNat 0))], [(1, [(.ofNat 0, .ofNat 60)]), (2, [(.ofNat 1, .ofNat 20)]), (3, [(.ofNat 0, .ofNat 1000)]), (4, [(.ofNat 0, .ofNat 19)]), (5, [(.ofNat 0, .ofNat 59)]), (8, [(.negSucc 4294967294, .negSucc 0)])], [((6, .ofNat 1, .ofNat 0), (7, .negSucc 0, .ofNat 0), (8, .ofNat 1, .ofNat 0)), ((1, .ofNat 1, .ofNat 0), (4, .ofNat 1, .ofNat 0), (5, .ofNat 1, .ofNat 0))], [])]
set_option maxRecDepth 1000000 in
theorem sg_il_c1_g : sg_go [] [22] 3000 11 28 1 6 [(0, [(.ofNat 0, .ofNat 0)]), (1, [(.ofNat 0, .ofNat 60)]), (2, [(.ofNat 1, .ofNat 20)]), (3, [(.ofNat 0, .ofNat 1000)]), (4, [(.ofNat 0, .ofNat 19)]), (5, [(.ofNat 0, .ofNat 59)])] [] [((1, .ofNat 1, .ofNat 0), (4, .ofNat 1, .ofNat 0), (5, .ofNat 1, .ofNat 0))] [] [(0, .inr (.inl [64])), (1, .inr (.inl [116])), (2, .inl (false, (1, .ofNat 1, .ofNat 0))), (3, .inl (false, (2, .ofNat 1, .ofNat 0))), (4, .inl (false, (3, .ofNat 1, .ofNat 0))), (5, .inl (false, (4, .ofNat 1, .ofNat 0)))] [] [] sg_il_c1_Z = true := by decide +kernel
set_option maxRecDepth 100000 in
theorem sg_il_c1 {Q : Option Value × am_S → Prop} {d : Nat} {S : am_S} {L : am_L} {x1 x2 x3 x4 x5 : Int} (hd : 1 ≤ d) (hP : ax_P0 none S) (l0 : lc L 0 64) (l1 : lc L 1 116) (l2 : li L 2 x1) (l3 : li L 3 x2) (l4 : li L 4 x3) (l5 : li L 5 x4) (b1 : (0 ≤ x1 ∧ x1 ≤ 60)) (b2 : (1 ≤ x2 ∧ x2 ≤ 20)) (b3 : (0 ≤ x3 ∧ x3 ≤ 1000)) (b4 : (0 ≤ x4 ∧ x4 ≤ 19)) (b5 : (0 ≤ x5 ∧ x5 ≤ 59)) (t0 : x1 + x4 = x5)
    (k0 : ∀ (x6 x7 x8 : Int) (L' : am_L), rd S 65 x4 = x6 → rd S 117 x5 = x7 → 0 ≤ x8 → x8 ≤ x3 → (0 ≤ x1 ∧ x1 ≤ 60) → (1 ≤ x2 ∧ x2 ≤ 20) → (0 ≤ x3 ∧ x3 ≤ 1000) → (0 ≤ x4 ∧ x4 ≤ 19) → (0 ≤ x5 ∧ x5 ≤ 59) → (0 ≤ x8 ∧ x8 ≤ 1000) → x6 + ((-1) * x7 + 0) = x8 → x1 + x4 = x5 → lc L' 0 64 → lc L' 1 116 → li L' 2 x1 → li L' 3 x2 → li L' 4 x3 → li L' 5 (x4 + 1) → lj L' 6 x8 → am_V none d 11 22 L' ([]) S Q)
    (k1 : ∀ (x6 x7 x8 : Int) (i1 : Int32), rd S 65 x4 = x6 → rd S 117 x5 = x7 → 0 ≤ x8 → x3 < x8 → (0 ≤ x1 ∧ x1 ≤ 60) → (1 ≤ x2 ∧ x2 ≤ 20) → (0 ≤ x3 ∧ x3 ≤ 1000) → (0 ≤ x4 ∧ x4 ≤ 19) → (0 ≤ x5 ∧ x5 ≤ 59) → (1 ≤ x8 ∧ x8 ≤ 4294967295) → x6 + ((-1) * x7 + 0) = x8 → x1 + x4 = x5 → i1.toInt = 0 → Q (some (.int i1), S))
    (k2 : ∀ (x6 x7 x8 : Int) (L' : am_L), rd S 65 x4 = x6 → rd S 117 x5 = x7 → x8 < 0 → (-1) * x8 + 0 ≤ x3 → (0 ≤ x1 ∧ x1 ≤ 60) → (1 ≤ x2 ∧ x2 ≤ 20) → (1 ≤ x3 ∧ x3 ≤ 1000) → (0 ≤ x4 ∧ x4 ≤ 19) → (0 ≤ x5 ∧ x5 ≤ 59) → ((-1000) ≤ x8 ∧ x8 ≤ (-1)) → x6 + ((-1) * x7 + 0) = x8 → x1 + x4 = x5 → lc L' 0 64 → lc L' 1 116 → li L' 2 x1 → li L' 3 x2 → li L' 4 x3 → li L' 5 (x4 + 1) → lj L' 6 x8 → am_V none d 11 22 L' ([]) S Q)
    (k3 : ∀ (x6 x7 x8 : Int) (i1 : Int32), rd S 65 x4 = x6 → rd S 117 x5 = x7 → x8 < 0 → x3 < (-1) * x8 + 0 → (0 ≤ x1 ∧ x1 ≤ 60) → (1 ≤ x2 ∧ x2 ≤ 20) → (0 ≤ x3 ∧ x3 ≤ 1000) → (0 ≤ x4 ∧ x4 ≤ 19) → (0 ≤ x5 ∧ x5 ≤ 59) → ((-4294967295) ≤ x8 ∧ x8 ≤ (-1)) → x6 + ((-1) * x7 + 0) = x8 → x1 + x4 = x5 → i1.toInt = 0 → Q (some (.int i1), S)) : am_V none d 11 28 L ([]) S Q := by
  refine sg_use sg_il_c1_g hd hP (sg_xs [0, x1, x2, x3, x4, x5]) ⟨⟨Int.le_refl 0, Int.le_refl 0⟩, b1, b2, b3, b4, b5, trivial⟩ trivial ⟨t0, trivial⟩ trivial ⟨l0, l1, l2, l3, l4, l5, trivial⟩ trivial ?_
  intro z hz x' L' st' S' hx hP' hW hL' hs' hJ hE' hT' hD'
  have q1 : x' 1 = x1 := hx 1 (by decide)
  subst q1
  have q2 : x' 2 = x2 := hx 2 (by decide)
  subst q2
  have q3 : x' 3 = x3 := hx 3 (by decide)
  subst q3
  have q4 : x' 4 = x4 := hx 4 (by decide)
  subst q4
  have q5 : x' 5 = x5 := hx 5 (by decide)
  subst q5
  have eS : S' = S := hW.1 rfl
  subst eS
  simp only [sg_il_c1_Z, List.mem_cons, List.not_mem_nil, or_false] at hz
  rcases hz with rfl | rfl | rfl | rfl
  · obtain ⟨f0, f1, f2, f3, hσ⟩ := hJ
    obtain ⟨e0, e1, e2, e3, e4, e5, -⟩ := hE'
    obtain ⟨t0, t1, -⟩ := hT'
    obtain ⟨p0, p1, p2, p3, p4, p5, p6, -⟩ := hL'
    obtain rfl := sg_tn hs'
    exact k0 (x' 6) (x' 7) (x' 8) L' f0 f1 f2 f3 e0 e1 e2 e3 e4 e5 t0 t1 p0 p1 p2 p3 p4 p5 p6
  · obtain ⟨f0, f1, f2, f3, hσ⟩ := hJ
    obtain ⟨e0, e1, e2, e3, e4, e5, -⟩ := hE'
    obtain ⟨t0, t1, -⟩ := hT'
    intro v hv
    subst hv
    cases v with
    | none => exact hs'.elim
    | some v1 =>
      obtain ⟨⟨i1, rfl, g1⟩, -⟩ := hs'
      exact k1 (x' 6) (x' 7) (x' 8) i1 f0 f1 f2 f3 e0 e1 e2 e3 e4 e5 t0 t1 g1
  · obtain ⟨f0, f1, f2, f3, hσ⟩ := hJ
    obtain ⟨e0, e1, e2, e3, e4, e5, -⟩ := hE'
    obtain ⟨t0, t1, -⟩ := hT'
    obtain ⟨p0, p1, p2, p3, p4, p5, p6, -⟩ := hL'
    obtain rfl := sg_tn hs'
    exact k2 (x' 6) (x' 7) (x' 8) L' f0 f1 f2 f3 e0 e1 e2 e3 e4 e5 t0 t1 p0 p1 p2 p3 p4 p5 p6
  · obtain ⟨f0, f1, f2, f3, hσ⟩ := hJ
    obtain ⟨e0, e1, e2, e3, e4, e5, -⟩ := hE'
    obtain ⟨t0, t1, -⟩ := hT'
    intro v hv
    subst hv
    cases v with
    | none => exact hs'.elim
    | some v1 =>
      obtain ⟨⟨i1, rfl, g1⟩, -⟩ := hs'
      exact k3 (x' 6) (x' 7) (x' 8) i1 f0 f1 f2 f3 e0 e1 e2 e3 e4 e5 t0 t1 g1
def sg_mh_x42_Z : List sg_z := [(168, [(0, .inr (.inl [0])), (1, .inl (false, (0, .ofNat 0, .ofNat 2))), (3, .inl (false, (2, .ofNat 1, .ofNat 0))), (4, .inl (false, (3, .ofNat 1, .ofNat 0))), (5, .inl (false, (4, .ofNat 1, .ofNat 0))), (7, .inl (false, (5, .ofNat 1, .ofNat 0))), (8, .inl (false, (6, .ofNat 1, .ofNat 0))), (9, .inl (false, (7, .ofNat 1, .ofNat 0)))], [.inl (false, (4, .ofNat 1, .ofNat 0)), .inl (false, (3, .ofNat 1, .ofNat 0)), .inl (false, (2, .ofNat 1, .ofNat 0)), .inr (.inl [118]), .inr (.inl [64]), .inl (false, (5, .ofNat 1, .ofNat 0))], [], [(1, [(.ofNat 2, .ofNat 2)]), (2, [(.ofNat 0, .ofNat 60)]), (3, [(.ofNat 1, .ofNat 20)]), (4, [(.ofNat 0, .ofNat 1000)]), (5, [(.ofNat 0, .ofNat 64)]), (6, [(.ofNat 0, .ofNat 7)]), (7, [(.ofNat 0, .ofNat 7)])], [], [])]
set_option maxRecDepth 1000000 in
theorem sg_mh_x42_g : sg_go [] [167] 3000 129 150 0 8 [(0, [(.ofNat 0, .ofNat 0)]), (1, [(.ofNat 2, .ofNat 2)]), (2, [(.ofNat 0, .ofNat 60)]), (3, [(.ofNat 1, .ofNat 20)]), (4, [(.ofNat 0, .ofNat 1000)]), (5, [(.ofNat 0, .ofNat 64)]), (6, [(.ofNat 0, .ofNat 7)]), (7, [(.ofNat 0, .ofNat 7)])] [] [] [] [(0, .inr (.inl [0])), (1, .inl (false, (1, .ofNat 1, .ofNat 0))), (3, .inl (false, (2, .ofNat 1, .ofNat 0))), (4, .inl (false, (3, .ofNat 1, .ofNat 0))), (5, .inl (false, (4, .ofNat 1, .ofNat 0))), (7, .inl (false, (5, .ofNat 1, .ofNat 0))), (8, .inl (false, (6, .ofNat 1, .ofNat 0))), (9, .inl (false, (7, .ofNat 1, .ofNat 0)))] [] [] sg_mh_x42_Z = true := by decide +kernel
set_option maxRecDepth 100000 in
theorem sg_mh_x42 {Q : Option Value × am_S → Prop} {d : Nat} {S : am_S} {L : am_L} {x1 x2 x3 x4 x5 x6 x7 : Int} (hd : 0 ≤ d) (hP : ax_P0 none S) (l0 : lc L 0 0) (l1 : li L 1 x1) (l3 : li L 3 x2) (l4 : li L 4 x3) (l5 : li L 5 x4) (l7 : li L 7 x5) (l8 : li L 8 x6) (l9 : li L 9 x7) (b1 : (2 ≤ x1 ∧ x1 ≤ 2)) (b2 : (0 ≤ x2 ∧ x2 ≤ 60)) (b3 : (1 ≤ x3 ∧ x3 ≤ 20)) (b4 : (0 ≤ x4 ∧ x4 ≤ 1000)) (b5 : (0 ≤ x5 ∧ x5 ≤ 64)) (b6 : (0 ≤ x6 ∧ x6 ≤ 7)) (b7 : (0 ≤ x7 ∧ x7 ≤ 7))
    (k0 : ∀ (L' : am_L) (i1 : Int32) (i2 : Int32) (i3 : Int32) (i6 : Int32), (2 ≤ x1 ∧ x1 ≤ 2) → (0 ≤ x2 ∧ x2 ≤ 60) → (1 ≤ x3 ∧ x3 ≤ 20) → (0 ≤ x4 ∧ x4 ≤ 1000) → (0 ≤ x5 ∧ x5 ≤ 64) → (0 ≤ x6 ∧ x6 ≤ 7) → (0 ≤ x7 ∧ x7 ≤ 7) → lc L' 0 0 → li L' 1 2 → li L' 3 x2 → li L' 4 x3 → li L' 5 x4 → li L' 7 x5 → li L' 8 x6 → li L' 9 x7 → i1.toInt = x4 → i2.toInt = x3 → i3.toInt = x2 → i6.toInt = x5 → am_V none d 129 167 L' ((.int i1) :: (.int i2) :: (.int i3) :: (.ref 118) :: (.ref 64) :: (.int i6) :: []) S Q) : am_V none d 129 150 L ([]) S Q := by
  refine sg_use sg_mh_x42_g hd hP (sg_xs [0, x1, x2, x3, x4, x5, x6, x7]) ⟨⟨Int.le_refl 0, Int.le_refl 0⟩, b1, b2, b3, b4, b5, b6, b7, trivial⟩ trivial trivial trivial ⟨l0, l1, l3, l4, l5, l7, l8, l9, trivial⟩ trivial ?_
  intro z hz x' L' st' S' hx hP' hW hL' hs' hJ hE' hT' hD'
  have q1 : x' 1 = x1 := hx 1 (by decide)
  subst q1
  have q2 : x' 2 = x2 := hx 2 (by decide)
  subst q2
  have q3 : x' 3 = x3 := hx 3 (by decide)
  subst q3
  have q4 : x' 4 = x4 := hx 4 (by decide)
  subst q4
  have q5 : x' 5 = x5 := hx 5 (by decide)
  subst q5
  have q6 : x' 6 = x6 := hx 6 (by decide)
  subst q6
  have q7 : x' 7 = x7 := hx 7 (by decide)
  subst q7
  have eS : S' = S := hW.1 rfl
  subst eS
  simp only [sg_mh_x42_Z, List.mem_cons, List.not_mem_nil, or_false] at hz
  rcases hz with rfl
  · have hσ := hJ
    obtain ⟨e0, e1, e2, e3, e4, e5, e6, -⟩ := hE'
    obtain ⟨p0, p1, p2, p3, p4, p5, p6, p7, -⟩ := hL'
    obtain ⟨v1, r1, rfl, ⟨i1, rfl, g1⟩, hs1⟩ := sg_tc hs'
    obtain ⟨v2, r2, rfl, ⟨i2, rfl, g2⟩, hs2⟩ := sg_tc hs1
    obtain ⟨v3, r3, rfl, ⟨i3, rfl, g3⟩, hs3⟩ := sg_tc hs2
    obtain ⟨v4, r4, rfl, rfl, hs4⟩ := sg_tc hs3
    obtain ⟨v5, r5, rfl, rfl, hs5⟩ := sg_tc hs4
    obtain ⟨v6, r6, rfl, ⟨i6, rfl, g6⟩, hs6⟩ := sg_tc hs5
    obtain rfl := sg_tn hs6
    exact k0 L' i1 i2 i3 i6 e0 e1 e2 e3 e4 e5 e6 p0 p1 p2 p3 p4 p5 p6 p7 g1 g2 g3 g6
def sg_il_a2_Z : List sg_z := [(0, [], [.inl (false, (0, .ofNat 0, .ofNat 0))], [(2, 1, (4, .ofNat 1, .ofNat 0), (2, .ofNat 1, .ofNat 0), (0, .ofNat 0, .ofNat 0)), (0, 64, (0, .ofNat 0, .ofNat 0), (4, .ofNat 1, .ofNat 0), (0, .ofNat 0, .ofNat 0))], [(1, [(.ofNat 0, .ofNat 60)]), (2, [(.ofNat 1, .ofNat 20)]), (3, [(.ofNat 0, .ofNat 1000)]), (4, [(.ofNat 0, .ofNat 30)])], [], []),
  (0, [], [.inl (false, (0, .ofNat 0, .ofNat 0))], [(2, 0, (0, .ofNat 0, .ofNat 0), (0, .ofNat 0, .ofNat 0), (0, .ofNat 0, .ofNat 0)), (2, 4, (1, .ofNat 1, .ofNat 0), (6, .ofNat 1, .ofNat 0), (0, .ofNat 0, .ofNat 0)), (0, 118, (0, .ofNat 0, .ofNat 0), (5, .ofNat 1, .ofNat 0), (0, .ofNat 0, .ofNat 0)), (2, 3, (1, .ofNat 1, .ofNat 0), (0, .ofNat 0, .ofNat 0), (0, .ofNat 0, .ofNat 0)), (2, 0, (4, .ofNat 1, .ofNat 0), (2, .ofNat 1, .ofNat 0), (0, .ofNat 0, .ofNat 0)), (0, 64, (0, .ofNat 0, .ofNat 0), (4, .ofNat 1, .ofNat 0), (0, .ofNat 0, .ofNat 0))], [(1, [(.ofNat 0, .ofNat 60)]), (2, [(.ofNat 1, .ofNat 20)]), (3, [(.ofNat 0, .ofNat 1000)]), (4, [(.ofNat 1, .ofNat 20)]), (5, [(.ofNat 0, .ofNat 60)]), (6, [(.negSucc 19, .ofNat 59)])], [((5, .ofNat 1, .ofNat 0), (2, .negSucc 0, .ofNat 0), (6, .ofNat 1, .ofNat 0))], []),
  (23, [(0, .inr (.inl [64])), (1, .inr (.inl [118])), (2, .inl (false, (1, .ofNat 1, .ofNat 0))), (3, .inl (false, (2, .ofNat 1, .ofNat 0))), (4, .inl (false, (3, .ofNat 1, .ofNat 0))), (5, .inl (false, (0, .ofNat 0, .ofNat 0)))], [], [(2, 1, (0, .ofNat 0, .ofNat 1), (0, .ofNat 0, .ofNat 0), (0, .ofNat 0, .ofNat 0)), (2, 5, (1, .ofNat 1, .ofNat 0), (6, .ofNat 1, .ofNat 0), (0, .ofNat 0, .ofNat 0)), (0, 118, (0, .ofNat 0, .ofNat 0), (5, .ofNat 1, .ofNat 0), (0, .ofNat 0, .ofNat 0)), (2, 3, (1, .ofNat 1, .ofNat 0), (0, .ofNat 0, .ofNat 0), (0, .ofNat 0, .ofNat 0)), (2, 0, (4, .ofNat 1, .ofNat 0), (2, .ofNat 1, .ofNat 0), (0, .ofNat 0, .ofNat 0)), (0, 64, (0, .ofNat 0, .ofNat 0), (4, .ofNat 1, .ofNat 0), (0, .ofNat 0, .ofNat 0))], [(1, [(.ofNat 0, .ofNat 59)]), (2, [(.ofNat 1, .ofNat 20)]), (3, [(.ofNat 0, .ofNat 1000)]), (4, [(.ofNat 1, .ofNat 20)]), (5, [(.ofNat 0, .ofNat 60)]), (6, [(.ofNat 0, .ofNat 59)])], [((5, .ofNat 1, .ofNat 0), (2, .negSucc 0, .ofNat 0), (6, .ofNat 1, .ofNat 0))], [])]
set_option maxRecDepth 1000000 in
theorem sg_il_a2_g : sg_go [] [22] 3000 11 0 1 4 [(0, [(.ofNat 0, .ofNat 0)]), (1, [(.ofNat 0, .ofNat 60)]), (2, [(.ofNat 1, .ofNat 20)]), (3, [(.ofNat 0, .ofNat 1000)])] [] [] [] [(0, .inr (.inl [64])), (1, .inr (.inl [118])), (2, .inl (false, (1, .ofNat 1, .ofNat 0))), (3, .inl (false, (2, .ofNat 1, .ofNat 0))), (4, .inl (false, (3, .ofNat 1, .ofNat 0)))] [] [] sg_il_a2_Z = true := by decide +kernel
set_option maxRecDepth 100000 in
theorem sg_il_a2 {Q : Option Value × am_S → Prop} {d : Nat} {S : am_S} {L : am_L} {x1 x2 x3 : Int} (hd : 1 ≤ d) (hP : ax_P0 none S) (l0 : lc L 0 64) (l1 : lc L 1 118) (l2 : li L 2 x1) (l3 : li L 3 x2) (l4 : li L 4 x3) (b1 : (0 ≤ x1 ∧ x1 ≤ 60)) (b2 : (1 ≤ x2 ∧ x2 ≤ 20)) (b3 : (0 ≤ x3 ∧ x3 ≤ 1000))
    (k0 : ∀ (x4 : Int) (i1 : Int32), rd S 64 0 = x4 → x4 ≠ x2 → (0 ≤ x1 ∧ x1 ≤ 60) → (1 ≤ x2 ∧ x2 ≤ 20) → (0 ≤ x3 ∧ x3 ≤ 1000) → (0 ≤ x4 ∧ x4 ≤ 30) → i1.toInt = 0 → Q (some (.int i1), S))
    (k1 : ∀ (x4 x5 x6 : Int) (i1 : Int32), rd S 64 0 = x4 → x4 = x2 → 0 ≤ x1 → rd S 118 0 = x5 → x6 < x1 → (0 ≤ x1 ∧ x1 ≤ 60) → (1 ≤ x2 ∧ x2 ≤ 20) → (0 ≤ x3 ∧ x3 ≤ 1000) → (1 ≤ x4 ∧ x4 ≤ 20) → (0 ≤ x5 ∧ x5 ≤ 60) → ((-20) ≤ x6 ∧ x6 ≤ 59) → x5 + ((-1) * x2 + 0) = x6 → i1.toInt = 0 → Q (some (.int i1), S))
    (k2 : ∀ (x4 x5 x6 : Int) (L' : am_L), rd S 64 0 = x4 → x4 = x2 → 0 ≤ x1 → rd S 118 0 = x5 → x1 ≤ x6 → (0 ≤ x1 ∧ x1 ≤ 59) → (1 ≤ x2 ∧ x2 ≤ 20) → (0 ≤ x3 ∧ x3 ≤ 1000) → (1 ≤ x4 ∧ x4 ≤ 20) → (0 ≤ x5 ∧ x5 ≤ 60) → (0 ≤ x6 ∧ x6 ≤ 59) → x5 + ((-1) * x2 + 0) = x6 → lc L' 0 64 → lc L' 1 118 → li L' 2 x1 → li L' 3 x2 → li L' 4 x3 → li L' 5 0 → am_V none d 11 22 L' ([]) S Q) : am_V none d 11 0 L ([]) S Q := by
  refine sg_use sg_il_a2_g hd hP (sg_xs [0, x1, x2, x3]) ⟨⟨Int.le_refl 0, Int.le_refl 0⟩, b1, b2, b3, trivial⟩ trivial trivial trivial ⟨l0, l1, l2, l3, l4, trivial⟩ trivial ?_
  intro z hz x' L' st' S' hx hP' hW hL' hs' hJ hE' hT' hD'
  have q1 : x' 1 = x1 := hx 1 (by decide)
  subst q1
  have q2 : x' 2 = x2 := hx 2 (by decide)
  subst q2
  have q3 : x' 3 = x3 := hx 3 (by decide)
  subst q3
  have eS : S' = S := hW.1 rfl
  subst eS
  simp only [sg_il_a2_Z, List.mem_cons, List.not_mem_nil, or_false] at hz
  rcases hz with rfl | rfl | rfl
  · obtain ⟨f0, f1, hσ⟩ := hJ
    obtain ⟨e0, e1, e2, e3, -⟩ := hE'
    intro v hv
    subst hv
    cases v with
    | none => exact hs'.elim
    | some v1 =>
      obtain ⟨⟨i1, rfl, g1⟩, -⟩ := hs'
      exact k0 (x' 4) i1 f0 f1 e0 e1 e2 e3 g1
  · obtain ⟨f0, f1, f2, f3, f4, -, hσ⟩ := hJ
    obtain ⟨e0, e1, e2, e3, e4, e5, -⟩ := hE'
    obtain ⟨t0, -⟩ := hT'
    intro v hv
    subst hv
    cases v with
    | none => exact hs'.elim
    | some v1 =>
      obtain ⟨⟨i1, rfl, g1⟩, -⟩ := hs'
      exact k1 (x' 4) (x' 5) (x' 6) i1 f0 f1 f2 f3 f4 e0 e1 e2 e3 e4 e5 t0 g1
  · obtain ⟨f0, f1, f2, f3, f4, -, hσ⟩ := hJ
    obtain ⟨e0, e1, e2, e3, e4, e5, -⟩ := hE'
    obtain ⟨t0, -⟩ := hT'
    obtain ⟨p0, p1, p2, p3, p4, p5, -⟩ := hL'
    obtain rfl := sg_tn hs'
    exact k2 (x' 4) (x' 5) (x' 6) L' f0 f1 f2 f3 f4 e0 e1 e2 e3 e4 e5 t0 p0 p1 p2 p3 p4 p5
def sg_il_b2_Z : List sg_z := [(0, [], [.inl (false, (0, .ofNat 0, .ofNat 1))], [(2, 3, (4, .ofNat 1, .ofNat 0), (2, .ofNat 1, .ofNat 0), (0, .ofNat 0, .ofNat 0))], [(1, [(.ofNat 0, .ofNat 60)]), (2, [(.ofNat 1, .ofNat 20)]), (3, [(.ofNat 0, .ofNat 1000)]), (4, [(.ofNat 1, .ofNat 20)])], [], []),
  (29, [(0, .inr (.inl [64])), (1, .inr (.inl [118])), (2, .inl (false, (1, .ofNat 1, .ofNat 0))), (3, .inl (false, (2, .ofNat 1, .ofNat 0))), (4, .inl (false, (3, .ofNat 1, .ofNat 0))), (5, .inl (false, (4, .ofNat 1, .ofNat 0)))], [], [(2, 2, (4, .ofNat 1, .ofNat 0), (2, .ofNat 1, .ofNat 0), (0, .ofNat 0, .ofNat 0))], [(1, [(.ofNat 0, .ofNat 60)]), (2, [(.ofNat 1, .ofNat 20)]), (3, [(.ofNat 0, .ofNat 1000)]), (4, [(.ofNat 0, .ofNat 19)])], [], [])]
set_option maxRecDepth 1000000 in
theorem sg_il_b2_g : sg_go [] [28] 3000 11 22 0 5 [(0, [(.ofNat 0, .ofNat 0)]), (1, [(.ofNat 0, .ofNat 60)]), (2, [(.ofNat 1, .ofNat 20)]), (3, [(.ofNat 0, .ofNat 1000)]), (4, [(.ofNat 0, .ofNat 20)])] [] [] [] [(0, .inr (.inl [64])), (1, .inr (.inl [118])), (2, .inl (false, (1, .ofNat 1, .ofNat 0))), (3, .inl (false, (2, .ofNat 1, .ofNat 0))), (4, .inl (false, (3, .ofNat 1, .ofNat 0))), (5, .inl (false, (4, .ofNat 1, .ofNat 0)))] [] [] sg_il_b2_Z = true := by decide +kernel
set_option maxRecDepth 100000 in
theorem sg_il_b2 {Q : Option Value × am_S → Prop} {d : Nat} {S : am_S} {L : am_L} {x1 x2 x3 x4 : Int} (hd : 0 ≤ d) (hP : ax_P0 none S) (l0 : lc L 0 64) (l1 : lc L 1 118) (l2 : li L 2 x1) (l3 : li L 3 x2) (l4 : li L 4 x3) (l5 : li L 5 x4) (b1 : (0 ≤ x1 ∧ x1 ≤ 60)) (b2 : (1 ≤ x2 ∧ x2 ≤ 20)) (b3 : (0 ≤ x3 ∧ x3 ≤ 1000)) (b4 : (0 ≤ x4 ∧ x4 ≤ 20))
    (k0 : ∀ (i1 : Int32), x2 ≤ x4 → (0 ≤ x1 ∧ x1 ≤ 60) → (1 ≤ x2 ∧ x2 ≤ 20) → (0 ≤ x3 ∧ x3 ≤ 1000) → (1 ≤ x4 ∧ x4 ≤ 20) → i1.toInt = 1 → Q (some (.int i1), S))
    (k1 : ∀ (L' : am_L), x4 < x2 → (0 ≤ x1 ∧ x1 ≤ 60) → (1 ≤ x2 ∧ x2 ≤ 20) → (0 ≤ x3 ∧ x3 ≤ 1000) → (0 ≤ x4 ∧ x4 ≤ 19) → lc L' 0 64 → lc L' 1 118 → li L' 2 x1 → li L' 3 x2 → li L' 4 x3 → li L' 5 x4 → am_V none d 11 28 L' ([]) S Q) : am_V none d 11 22 L ([]) S Q := by
  refine sg_use sg_il_b2_g hd hP (sg_xs [0, x1, x2, x3, x4]) ⟨⟨Int.le_refl 0, Int.le_refl 0⟩, b1, b2, b3, b4, trivial⟩ trivial trivial trivial ⟨l0, l1, l2, l3, l4, l5, trivial⟩ trivial ?_
  intro z hz x' L' st' S' hx hP' hW hL' hs' hJ hE' hT' hD'
  have q1 : x' 1 = x1 := hx 1 (by decide)
  subst q1
  have q2 : x' 2 = x2 := hx 2 (by decide)
  subst q2
  have q3 : x' 3 = x3 := hx 3 (by decide)
  subst q3
  have q4 : x' 4 = x4 := hx 4 (by decide)
  subst q4
  have eS : S' = S := hW.1 rfl
  subst eS
  simp only [sg_il_b2_Z, List.mem_cons, List.not_mem_nil, or_false] at hz
  rcases hz with rfl | rfl
  · obtain ⟨f0, hσ⟩ := hJ
    obtain ⟨e0, e1, e2, e3, -⟩ := hE'
    intro v hv
    subst hv
    cases v with
    | none => exact hs'.elim
    | some v1 =>
      obtain ⟨⟨i1, rfl, g1⟩, -⟩ := hs'
      exact k0 i1 f0 e0 e1 e2 e3 g1
  · obtain ⟨f0, hσ⟩ := hJ
    obtain ⟨e0, e1, e2, e3, -⟩ := hE'
    obtain ⟨p0, p1, p2, p3, p4, p5, -⟩ := hL'
    obtain rfl := sg_tn hs'
    exact k1 L' f0 e0 e1 e2 e3 p0 p1 p2 p3 p4 p5
def sg_il_c2_Z : List sg_z := [(23, [(0, .inr (.inl [64])), (1, .inr (.inl [118])), (2, .inl (false, (1, .ofNat 1, .ofNat 0))), (3, .inl (false, (2, .ofNat 1, .ofNat 0))), (4, .inl (false, (3, .ofNat 1, .ofNat 0))), (5, .inl (false, (4, .ofNat 1, .ofNat 1))), (6, .inl (true, (8, .ofNat 1, .ofNat 0)))], [], [(2, 5, (8, .ofNat 1, .ofNat 0), (3, .ofNat 1, .ofNat 0), (0, .ofNat 0, .ofNat 0)), (2, 3, (8, .ofNat 1, .ofNat 0), (0, .ofNat 0, .ofNat 0), (0, .ofNat 0, .ofNat 0)), (0, 119, (5, .ofNat 1, .ofNat 0), (7, .ofNat 1, .ofNat 0), (0, .ofNat 0, .ofNat 0)), (0, 65, (4, .ofNat 1, .ofNat 0), (6, .ofNat 1, .ofNat 0), (0, .ofNat 0, .ofNat 0))], [(1, [(.ofNat 0, .ofNat 60)]), (2, [(.ofNat 1, .ofNat 20)]), (3, [(.ofNat 0, .ofNat 1000)]), (4, [(.ofNat 0, .ofNat 19)]), (5, [(.ofNat 0, .ofNat 59)]), (8, [(.ofNat 0, .ofNat 1000)])], [((6, .ofNat 1, .ofNat 0), (7, .negSucc 0, .ofNat 0), (8, .ofNat 1, .ofNat 0)), ((1, .ofNat 1, .ofNat 0), (4, .ofNat 1, .ofNat 0), (5, .ofNat 1, .ofNat 0))], []),
  (0, [], [.inl (false, (0, .ofNat 0, .ofNat 0))], [(2, 4, (8, .ofNat 1, .ofNat 0), (3, .ofNat 1, .ofNat 0), (0, .ofNat 0, .ofNat 0)), (2, 3, (8, .ofNat 1, .ofNat 0), (0, .ofNat 0, .ofNat 0), (0, .ofNat 0, .ofNat 0)), (0, 119, (5, .ofNat 1, .ofNat 0), (7, .ofNat 1, .ofNat 0), (0, .ofNat 0, .ofNat 0)), (0, 65, (4, .ofNat 1, .ofNat 0), (6, .ofNat 1, .ofNat 0), (0, .ofNat 0, .ofNat 0))], [(1, [(.ofNat 0, .ofNat 60)]), (2, [(.ofNat 1, .ofNat 20)]), (3, [(.ofNat 0, .ofNat 1000)]), (4, [(.ofNat 0, .ofNat 19)]), (5, [(.ofNat 0, .ofNat 59)]), (8, [(.ofNat 1, .ofNat 4294967295)])], [((6, .ofNat 1, .ofNat 0), (7, .negSucc 0, .ofNat 0), (8, .ofNat 1, .ofNat 0)), ((1, .ofNat 1, .ofNat 0), (4, .ofNat 1, .ofNat 0), (5, .ofNat 1, .ofNat 0))], []),
  (23, [(0, .inr (.inl [64])), (1, .inr (.inl [118])), (2, .inl (false, (1, .ofNat 1, .ofNat 0))), (3, .inl (false, (2, .ofNat 1, .ofNat 0))), (4, .inl (false, (3, .ofNat 1, .ofNat 0))), (5, .inl (false, (4, .ofNat 1, .ofNat 1))), (6, .inl (true, (8, .ofNat 1, .ofNat 0)))], [], [(2, 5, (8, .negSucc 0, .ofNat 0), (3, .ofNat 1, .ofNat 0), (0, .ofNat 0, .ofNat 0)), (2, 2, (8, .ofNat 1, .ofNat 0), (0, .ofNat 0, .ofNat 0), (0, .ofNat 0, .ofNat 0)), (0, 119, (5, .ofNat 1, .ofNat 0), (7, .ofNat 1, .ofNat 0), (0, .ofNat 0, .ofNat 0)), (0, 65, (4, .ofNat 1, .ofNat 0), (6, .ofNat 1, .ofNat 0), (0, .ofNat 0, .ofNat 0))], [(1, [(.ofNat 0, .ofNat 60)]), (2, [(.ofNat 1, .ofNat 20)]), (3, [(.ofNat 1, .ofNat 1000)]), (4, [(.ofNat 0, .ofNat 19)]), (5, [(.ofNat 0, .ofNat 59)]), (8, [(.negSucc 999, .negSucc 0)])], [((6, .ofNat 1, .ofNat 0), (7, .negSucc 0, .ofNat 0), (8, .ofNat 1, .ofNat 0)), ((1, .ofNat 1, .ofNat 0), (4, .ofNat 1, .ofNat 0), (5, .ofNat 1, .ofNat 0))], []),
  (0, [], [.inl (false, (0, .ofNat 0, .ofNat 0))], [(2, 4, (8, .negSucc 0, .ofNat 0), (3, .ofNat 1, .ofNat 0), (0, .ofNat 0, .ofNat 0)), (2, 2, (8, .ofNat 1, .ofNat 0), (0, .ofNat 0, .ofNat 0), (0, .ofNat 0, .ofNat 0)), (0, 119, (5, .ofNat 1, .ofNat 0), (7, .ofNat 1, .ofNat 0), (0, .ofNat 0, .ofNat 0)), (0, 65, (4, .ofNat 1, .ofNat 0), (6, .ofNat 1, .ofNat 0), (0, .ofNat 0, .ofNat 0))], [(1, [(.ofNat 0, .ofNat 60)]), (2, [(.ofNat 1, .ofNat 20)]), (3, [(.ofNat 0, .ofNat 1000)]), (4, [(.ofNat 0, .ofNat 19)]), (5, [(.ofNat 0, .ofNat 59)]), (8, [(.negSucc 4294967294, .negSucc 0)])], [((6, .ofNat 1, .ofNat 0), (7, .negSucc 0, .ofNat 0), (8, .ofNat 1, .ofNat 0)), ((1, .ofNat 1, .ofNat 0), (4, .ofNat 1, .ofNat 0), (5, .ofNat 1, .ofNat 0))], [])]
set_option maxRecDepth 1000000 in
theorem sg_il_c2_g : sg_go [] [22] 3000 11 28 1 6 [(0, [(.ofNat 0, .ofNat 0)]), (1, [(.ofNat 0, .ofNat 60)]), (2, [(.ofNat 1, .ofNat 20)]), (3, [(.ofNat 0, .ofNat 1000)]), (4, [(.ofNat 0, .ofNat 19)]), (5, [(.ofNat 0, .ofNat 59)])] [] [((1, .ofNat 1, .ofNat 0), (4, .ofNat 1, .ofNat 0), (5, .ofNat 1, .ofNat 0))] [] [(0, .inr (.inl [64])), (1, .inr (.inl [118])), (2, .inl (false, (1, .ofNat 1, .ofNat 0))), (3, .inl (false, (2, .ofNat 1, .ofNat 0))), (4, .inl (false, (3, .ofNat 1, .ofNat 0))), (5, .inl (false, (4, .ofNat 1, .ofNat 0)))] [] [] sg_il_c2_Z = true := by decide +kernel
set_option maxRecDepth 100000 in
theorem sg_il_c2 {Q : Option Value × am_S → Prop} {d : Nat} {S : am_S} {L : am_L} {x1 x2 x3 x4 x5 : Int} (hd : 1 ≤ d) (hP : ax_P0 none S) (l0 : lc L 0 64) (l1 : lc L 1 118) (l2 : li L 2 x1) (l3 : li L 3 x2) (l4 : li L 4 x3) (l5 : li L 5 x4) (b1 : (0 ≤ x1 ∧ x1 ≤ 60)) (b2 : (1 ≤ x2 ∧ x2 ≤ 20)) (b3 : (0 ≤ x3 ∧ x3 ≤ 1000)) (b4 : (0 ≤ x4 ∧ x4 ≤ 19)) (b5 : (0 ≤ x5 ∧ x5 ≤ 59)) (t0 : x1 + x4 = x5)
    (k0 : ∀ (x6 x7 x8 : Int) (L' : am_L), rd S 65 x4 = x6 → rd S 119 x5 = x7 → 0 ≤ x8 → x8 ≤ x3 → (0 ≤ x1 ∧ x1 ≤ 60) → (1 ≤ x2 ∧ x2 ≤ 20) → (0 ≤ x3 ∧ x3 ≤ 1000) → (0 ≤ x4 ∧ x4 ≤ 19) → (0 ≤ x5 ∧ x5 ≤ 59) → (0 ≤ x8 ∧ x8 ≤ 1000) → x6 + ((-1) * x7 + 0) = x8 → x1 + x4 = x5 → lc L' 0 64 → lc L' 1 118 → li L' 2 x1 → li L' 3 x2 → li L' 4 x3 → li L' 5 (x4 + 1) → lj L' 6 x8 → am_V none d 11 22 L' ([]) S Q)
    (k1 : ∀ (x6 x7 x8 : Int) (i1 : Int32), rd S 65 x4 = x6 → rd S 119 x5 = x7 → 0 ≤ x8 → x3 < x8 → (0 ≤ x1 ∧ x1 ≤ 60) → (1 ≤ x2 ∧ x2 ≤ 20) → (0 ≤ x3 ∧ x3 ≤ 1000) → (0 ≤ x4 ∧ x4 ≤ 19) → (0 ≤ x5 ∧ x5 ≤ 59) → (1 ≤ x8 ∧ x8 ≤ 4294967295) → x6 + ((-1) * x7 + 0) = x8 → x1 + x4 = x5 → i1.toInt = 0 → Q (some (.int i1), S))
    (k2 : ∀ (x6 x7 x8 : Int) (L' : am_L), rd S 65 x4 = x6 → rd S 119 x5 = x7 → x8 < 0 → (-1) * x8 + 0 ≤ x3 → (0 ≤ x1 ∧ x1 ≤ 60) → (1 ≤ x2 ∧ x2 ≤ 20) → (1 ≤ x3 ∧ x3 ≤ 1000) → (0 ≤ x4 ∧ x4 ≤ 19) → (0 ≤ x5 ∧ x5 ≤ 59) → ((-1000) ≤ x8 ∧ x8 ≤ (-1)) → x6 + ((-1) * x7 + 0) = x8 → x1 + x4 = x5 → lc L' 0 64 → lc L' 1 118 → li L' 2 x1 → li L' 3 x2 → li L' 4 x3 → li L' 5 (x4 + 1) → lj L' 6 x8 → am_V none d 11 22 L' ([]) S Q)
    (k3 : ∀ (x6 x7 x8 : Int) (i1 : Int32), rd S 65 x4 = x6 → rd S 119 x5 = x7 → x8 < 0 → x3 < (-1) * x8 + 0 → (0 ≤ x1 ∧ x1 ≤ 60) → (1 ≤ x2 ∧ x2 ≤ 20) → (0 ≤ x3 ∧ x3 ≤ 1000) → (0 ≤ x4 ∧ x4 ≤ 19) → (0 ≤ x5 ∧ x5 ≤ 59) → ((-4294967295) ≤ x8 ∧ x8 ≤ (-1)) → x6 + ((-1) * x7 + 0) = x8 → x1 + x4 = x5 → i1.toInt = 0 → Q (some (.int i1), S)) : am_V none d 11 28 L ([]) S Q := by
  refine sg_use sg_il_c2_g hd hP (sg_xs [0, x1, x2, x3, x4, x5]) ⟨⟨Int.le_refl 0, Int.le_refl 0⟩, b1, b2, b3, b4, b5, trivial⟩ trivial ⟨t0, trivial⟩ trivial ⟨l0, l1, l2, l3, l4, l5, trivial⟩ trivial ?_
  intro z hz x' L' st' S' hx hP' hW hL' hs' hJ hE' hT' hD'
  have q1 : x' 1 = x1 := hx 1 (by decide)
  subst q1
  have q2 : x' 2 = x2 := hx 2 (by decide)
  subst q2
  have q3 : x' 3 = x3 := hx 3 (by decide)
  subst q3
  have q4 : x' 4 = x4 := hx 4 (by decide)
  subst q4
  have q5 : x' 5 = x5 := hx 5 (by decide)
  subst q5
  have eS : S' = S := hW.1 rfl
  subst eS
  simp only [sg_il_c2_Z, List.mem_cons, List.not_mem_nil, or_false] at hz
  rcases hz with rfl | rfl | rfl | rfl
  · obtain ⟨f0, f1, f2, f3, hσ⟩ := hJ
    obtain ⟨e0, e1, e2, e3, e4, e5, -⟩ := hE'
    obtain ⟨t0, t1, -⟩ := hT'
    obtain ⟨p0, p1, p2, p3, p4, p5, p6, -⟩ := hL'
    obtain rfl := sg_tn hs'
    exact k0 (x' 6) (x' 7) (x' 8) L' f0 f1 f2 f3 e0 e1 e2 e3 e4 e5 t0 t1 p0 p1 p2 p3 p4 p5 p6
  · obtain ⟨f0, f1, f2, f3, hσ⟩ := hJ
    obtain ⟨e0, e1, e2, e3, e4, e5, -⟩ := hE'
    obtain ⟨t0, t1, -⟩ := hT'
    intro v hv
    subst hv
    cases v with
    | none => exact hs'.elim
    | some v1 =>
      obtain ⟨⟨i1, rfl, g1⟩, -⟩ := hs'
      exact k1 (x' 6) (x' 7) (x' 8) i1 f0 f1 f2 f3 e0 e1 e2 e3 e4 e5 t0 t1 g1
  · obtain ⟨f0, f1, f2, f3, hσ⟩ := hJ
    obtain ⟨e0, e1, e2, e3, e4, e5, -⟩ := hE'
    obtain ⟨t0, t1, -⟩ := hT'
    obtain ⟨p0, p1, p2, p3, p4, p5, p6, -⟩ := hL'
    obtain rfl := sg_tn hs'
    exact k2 (x' 6) (x' 7) (x' 8) L' f0 f1 f2 f3 e0 e1 e2 e3 e4 e5 t0 t1 p0 p1 p2 p3 p4 p5 p6
  · obtain ⟨f0, f1, f2, f3, hσ⟩ := hJ
    obtain ⟨e0, e1, e2, e3, e4, e5, -⟩ := hE'
    obtain ⟨t0, t1, -⟩ := hT'
    intro v hv
    subst hv
    cases v with
    | none => exact hs'.elim
    | some v1 =>
      obtain ⟨⟨i1, rfl, g1⟩, -⟩ := hs'
      exact k3 (x' 6) (x' 7) (x' 8) i1 f0 f1 f2 f3 e0 e1 e2 e3 e4 e5 t0 t1 g1
def sg_mh_x43_Z : List sg_z := [(168, [(0, .inr (.inl [0])), (1, .inl (false, (0, .ofNat 0, .ofNat 3))), (3, .inl (false, (2, .ofNat 1, .ofNat 0))), (4, .inl (false, (3, .ofNat 1, .ofNat 0))), (5, .inl (false, (4, .ofNat 1, .ofNat 0))), (7, .inl (false, (5, .ofNat 1, .ofNat 0))), (8, .inl (false, (6, .ofNat 1, .ofNat 0))), (9, .inl (false, (7, .ofNat 1, .ofNat 0)))], [.inl (false, (4, .ofNat 1, .ofNat 0)), .inl (false, (3, .ofNat 1, .ofNat 0)), .inl (false, (2, .ofNat 1, .ofNat 0)), .inr (.inl [120]), .inr (.inl [64]), .inl (false, (5, .ofNat 1, .ofNat 0))], [], [(1, [(.ofNat 3, .ofNat 3)]), (2, [(.ofNat 0, .ofNat 60)]), (3, [(.ofNat 1, .ofNat 20)]), (4, [(.ofNat 0, .ofNat 1000)]), (5, [(.ofNat 0, .ofNat 64)]), (6, [(.ofNat 0, .ofNat 7)]), (7, [(.ofNat 0, .ofNat 7)])], [], [])]
set_option maxRecDepth 1000000 in
theorem sg_mh_x43_g : sg_go [] [167] 3000 129 150 0 8 [(0, [(.ofNat 0, .ofNat 0)]), (1, [(.ofNat 3, .ofNat 3)]), (2, [(.ofNat 0, .ofNat 60)]), (3, [(.ofNat 1, .ofNat 20)]), (4, [(.ofNat 0, .ofNat 1000)]), (5, [(.ofNat 0, .ofNat 64)]), (6, [(.ofNat 0, .ofNat 7)]), (7, [(.ofNat 0, .ofNat 7)])] [] [] [] [(0, .inr (.inl [0])), (1, .inl (false, (1, .ofNat 1, .ofNat 0))), (3, .inl (false, (2, .ofNat 1, .ofNat 0))), (4, .inl (false, (3, .ofNat 1, .ofNat 0))), (5, .inl (false, (4, .ofNat 1, .ofNat 0))), (7, .inl (false, (5, .ofNat 1, .ofNat 0))), (8, .inl (false, (6, .ofNat 1, .ofNat 0))), (9, .inl (false, (7, .ofNat 1, .ofNat 0)))] [] [] sg_mh_x43_Z = true := by decide +kernel
set_option maxRecDepth 100000 in
theorem sg_mh_x43 {Q : Option Value × am_S → Prop} {d : Nat} {S : am_S} {L : am_L} {x1 x2 x3 x4 x5 x6 x7 : Int} (hd : 0 ≤ d) (hP : ax_P0 none S) (l0 : lc L 0 0) (l1 : li L 1 x1) (l3 : li L 3 x2) (l4 : li L 4 x3) (l5 : li L 5 x4) (l7 : li L 7 x5) (l8 : li L 8 x6) (l9 : li L 9 x7) (b1 : (3 ≤ x1 ∧ x1 ≤ 3)) (b2 : (0 ≤ x2 ∧ x2 ≤ 60)) (b3 : (1 ≤ x3 ∧ x3 ≤ 20)) (b4 : (0 ≤ x4 ∧ x4 ≤ 1000)) (b5 : (0 ≤ x5 ∧ x5 ≤ 64)) (b6 : (0 ≤ x6 ∧ x6 ≤ 7)) (b7 : (0 ≤ x7 ∧ x7 ≤ 7))
    (k0 : ∀ (L' : am_L) (i1 : Int32) (i2 : Int32) (i3 : Int32) (i6 : Int32), (3 ≤ x1 ∧ x1 ≤ 3) → (0 ≤ x2 ∧ x2 ≤ 60) → (1 ≤ x3 ∧ x3 ≤ 20) → (0 ≤ x4 ∧ x4 ≤ 1000) → (0 ≤ x5 ∧ x5 ≤ 64) → (0 ≤ x6 ∧ x6 ≤ 7) → (0 ≤ x7 ∧ x7 ≤ 7) → lc L' 0 0 → li L' 1 3 → li L' 3 x2 → li L' 4 x3 → li L' 5 x4 → li L' 7 x5 → li L' 8 x6 → li L' 9 x7 → i1.toInt = x4 → i2.toInt = x3 → i3.toInt = x2 → i6.toInt = x5 → am_V none d 129 167 L' ((.int i1) :: (.int i2) :: (.int i3) :: (.ref 120) :: (.ref 64) :: (.int i6) :: []) S Q) : am_V none d 129 150 L ([]) S Q := by
  refine sg_use sg_mh_x43_g hd hP (sg_xs [0, x1, x2, x3, x4, x5, x6, x7]) ⟨⟨Int.le_refl 0, Int.le_refl 0⟩, b1, b2, b3, b4, b5, b6, b7, trivial⟩ trivial trivial trivial ⟨l0, l1, l3, l4, l5, l7, l8, l9, trivial⟩ trivial ?_
  intro z hz x' L' st' S' hx hP' hW hL' hs' hJ hE' hT' hD'
  have q1 : x' 1 = x1 := hx 1 (by decide)
  subst q1
  have q2 : x' 2 = x2 := hx 2 (by decide)
  subst q2
  have q3 : x' 3 = x3 := hx 3 (by decide)
  subst q3
  have q4 : x' 4 = x4 := hx 4 (by decide)
  subst q4
  have q5 : x' 5 = x5 := hx 5 (by decide)
  subst q5
  have q6 : x' 6 = x6 := hx 6 (by decide)
  subst q6
  have q7 : x' 7 = x7 := hx 7 (by decide)
  subst q7
  have eS : S' = S := hW.1 rfl
  subst eS
  simp only [sg_mh_x43_Z, List.mem_cons, List.not_mem_nil, or_false] at hz
  rcases hz with rfl
  · have hσ := hJ
    obtain ⟨e0, e1, e2, e3, e4, e5, e6, -⟩ := hE'
    obtain ⟨p0, p1, p2, p3, p4, p5, p6, p7, -⟩ := hL'
    obtain ⟨v1, r1, rfl, ⟨i1, rfl, g1⟩, hs1⟩ := sg_tc hs'
    obtain ⟨v2, r2, rfl, ⟨i2, rfl, g2⟩, hs2⟩ := sg_tc hs1
    obtain ⟨v3, r3, rfl, ⟨i3, rfl, g3⟩, hs3⟩ := sg_tc hs2
    obtain ⟨v4, r4, rfl, rfl, hs4⟩ := sg_tc hs3
    obtain ⟨v5, r5, rfl, rfl, hs5⟩ := sg_tc hs4
    obtain ⟨v6, r6, rfl, ⟨i6, rfl, g6⟩, hs6⟩ := sg_tc hs5
    obtain rfl := sg_tn hs6
    exact k0 L' i1 i2 i3 i6 e0 e1 e2 e3 e4 e5 e6 p0 p1 p2 p3 p4 p5 p6 p7 g1 g2 g3 g6
def sg_il_a3_Z : List sg_z := [(0, [], [.inl (false, (0, .ofNat 0, .ofNat 0))], [(2, 1, (4, .ofNat 1, .ofNat 0), (2, .ofNat 1, .ofNat 0), (0, .ofNat 0, .ofNat 0)), (0, 64, (0, .ofNat 0, .ofNat 0), (4, .ofNat 1, .ofNat 0), (0, .ofNat 0, .ofNat 0))], [(1, [(.ofNat 0, .ofNat 60)]), (2, [(.ofNat 1, .ofNat 20)]), (3, [(.ofNat 0, .ofNat 1000)]), (4, [(.ofNat 0, .ofNat 30)])], [], []),
  (0, [], [.inl (false, (0, .ofNat 0, .ofNat 0))], [(2, 0, (0, .ofNat 0, .ofNat 0), (0, .ofNat 0, .ofNat 0), (0, .ofNat 0, .ofNat 0)), (2, 4, (1, .ofNat 1, .ofNat 0), (6, .ofNat 1, .ofNat 0), (0, .ofNat 0, .ofNat 0)), (0, 120, (0, .ofNat 0, .ofNat 0), (5, .ofNat 1, .ofNat 0), (0, .ofNat 0, .ofNat 0)), (2, 3, (1, .ofNat 1, .ofNat 0), (0, .ofNat 0, .ofNat 0), (0, .ofNat 0, .ofNat 0)), (2, 0, (4, .ofNat 1, .ofNat 0), (2, .ofNat 1, .ofNat 0), (0, .ofNat 0, .ofNat 0)), (0, 64, (0, .ofNat 0, .ofNat 0), (4, .ofNat 1, .ofNat 0), (0, .ofNat 0, .ofNat 0))], [(1, [(.ofNat 0, .ofNat 60)]), (2, [(.ofNat 1, .ofNat 20)]), (3, [(.ofNat 0, .ofNat 1000)]), (4, [(.ofNat 1, .ofNat 20)]), (5, [(.ofNat 0, .ofNat 60)]), (6, [(.negSucc 19, .ofNat 59)])], [((5, .ofNat 1, .ofNat 0), (2, .negSucc 0, .ofNat 0), (6, .ofNat 1, .ofNat 0))], []),
  (23, [(0, .inr (.inl [64])), (1, .inr (.inl [120])), (2, .inl (false, (1, .ofNat 1, .ofNat 0))), (3, .inl (false, (2, .ofNat 1, .ofNat 0))), (4, .inl (false, (3, .ofNat 1, .ofNat 0))), (5, .inl (false, (0, .ofNat 0, .ofNat 0)))], [], [(2, 1, (0, .ofNat 0, .ofNat 1), (0, .ofNat 0, .ofNat 0), (0, .ofNat 0, .ofNat 0)), (2, 5, (1, .ofNat 1, .ofNat 0), (6, .ofNat 1, .ofNat 0), (0, .ofNat 0, .ofNat 0)), (0, 120, (0, .ofNat 0, .ofNat 0), (5, .ofNat 1, .ofNat 0), (0, .ofNat 0, .ofNat 0)), (2, 3, (1, .ofNat 1, .ofNat 0), (0, .ofNat 0, .ofNat 0), (0, .ofNat 0, .ofNat 0)), (2, 0, (4, .ofNat 1, .ofNat 0), (2, .ofNat 1, .ofNat 0), (0, .ofNat 0, .ofNat 0)), (0, 64, (0, .ofNat 0, .ofNat 0), (4, .ofNat 1, .ofNat 0), (0, .ofNat 0, .ofNat 0))], [(1, [(.ofNat 0, .ofNat 59)]), (2, [(.ofNat 1, .ofNat 20)]), (3, [(.ofNat 0, .ofNat 1000)]), (4, [(.ofNat 1, .ofNat 20)]), (5, [(.ofNat 0, .ofNat 60)]), (6, [(.ofNat 0, .ofNat 59)])], [((5, .ofNat 1, .ofNat 0), (2, .negSucc 0, .ofNat 0), (6, .ofNat 1, .ofNat 0))], [])]
set_option maxRecDepth 1000000 in
theorem sg_il_a3_g : sg_go [] [22] 3000 11 0 1 4 [(0, [(.ofNat 0, .ofNat 0)]), (1, [(.ofNat 0, .ofNat 60)]), (2, [(.ofNat 1, .ofNat 20)]), (3, [(.ofNat 0, .ofNat 1000)])] [] [] [] [(0, .inr (.inl [64])), (1, .inr (.inl [120])), (2, .inl (false, (1, .ofNat 1, .ofNat 0))), (3, .inl (false, (2, .ofNat 1, .ofNat 0))), (4, .inl (false, (3, .ofNat 1, .ofNat 0)))] [] [] sg_il_a3_Z = true := by decide +kernel
set_option maxRecDepth 100000 in
theorem sg_il_a3 {Q : Option Value × am_S → Prop} {d : Nat} {S : am_S} {L : am_L} {x1 x2 x3 : Int} (hd : 1 ≤ d) (hP : ax_P0 none S) (l0 : lc L 0 64) (l1 : lc L 1 120) (l2 : li L 2 x1) (l3 : li L 3 x2) (l4 : li L 4 x3) (b1 : (0 ≤ x1 ∧ x1 ≤ 60)) (b2 : (1 ≤ x2 ∧ x2 ≤ 20)) (b3 : (0 ≤ x3 ∧ x3 ≤ 1000))
    (k0 : ∀ (x4 : Int) (i1 : Int32), rd S 64 0 = x4 → x4 ≠ x2 → (0 ≤ x1 ∧ x1 ≤ 60) → (1 ≤ x2 ∧ x2 ≤ 20) → (0 ≤ x3 ∧ x3 ≤ 1000) → (0 ≤ x4 ∧ x4 ≤ 30) → i1.toInt = 0 → Q (some (.int i1), S))
    (k1 : ∀ (x4 x5 x6 : Int) (i1 : Int32), rd S 64 0 = x4 → x4 = x2 → 0 ≤ x1 → rd S 120 0 = x5 → x6 < x1 → (0 ≤ x1 ∧ x1 ≤ 60) → (1 ≤ x2 ∧ x2 ≤ 20) → (0 ≤ x3 ∧ x3 ≤ 1000) → (1 ≤ x4 ∧ x4 ≤ 20) → (0 ≤ x5 ∧ x5 ≤ 60) → ((-20) ≤ x6 ∧ x6 ≤ 59) → x5 + ((-1) * x2 + 0) = x6 → i1.toInt = 0 → Q (some (.int i1), S))
    (k2 : ∀ (x4 x5 x6 : Int) (L' : am_L), rd S 64 0 = x4 → x4 = x2 → 0 ≤ x1 → rd S 120 0 = x5 → x1 ≤ x6 → (0 ≤ x1 ∧ x1 ≤ 59) → (1 ≤ x2 ∧ x2 ≤ 20) → (0 ≤ x3 ∧ x3 ≤ 1000) → (1 ≤ x4 ∧ x4 ≤ 20) → (0 ≤ x5 ∧ x5 ≤ 60) → (0 ≤ x6 ∧ x6 ≤ 59) → x5 + ((-1) * x2 + 0) = x6 → lc L' 0 64 → lc L' 1 120 → li L' 2 x1 → li L' 3 x2 → li L' 4 x3 → li L' 5 0 → am_V none d 11 22 L' ([]) S Q) : am_V none d 11 0 L ([]) S Q := by
  refine sg_use sg_il_a3_g hd hP (sg_xs [0, x1, x2, x3]) ⟨⟨Int.le_refl 0, Int.le_refl 0⟩, b1, b2, b3, trivial⟩ trivial trivial trivial ⟨l0, l1, l2, l3, l4, trivial⟩ trivial ?_
  intro z hz x' L' st' S' hx hP' hW hL' hs' hJ hE' hT' hD'
  have q1 : x' 1 = x1 := hx 1 (by decide)
  subst q1
  have q2 : x' 2 = x2 := hx 2 (by decide)
  subst q2
  have q3 : x' 3 = x3 := hx 3 (by decide)
  subst q3
  have eS : S' = S := hW.1 rfl
  subst eS
  simp only [sg_il_a3_Z, List.mem_cons, List.not_mem_nil, or_false] at hz
  rcases hz with rfl | rfl | rfl
  · obtain ⟨f0, f1, hσ⟩ := hJ
    obtain ⟨e0, e1, e2, e3, -⟩ := hE'
    intro v hv
    subst hv
    cases v with
    | none => exact hs'.elim
    | some v1 =>
      obtain ⟨⟨i1, rfl, g1⟩, -⟩ := hs'
      exact k0 (x' 4) i1 f0 f1 e0 e1 e2 e3 g1
  · obtain ⟨f0, f1, f2, f3, f4, -, hσ⟩ := hJ
    obtain ⟨e0, e1, e2, e3, e4, e5, -⟩ := hE'
    obtain ⟨t0, -⟩ := hT'
    intro v hv
    subst hv
    cases v with
    | none => exact hs'.elim
    | some v1 =>
      obtain ⟨⟨i1, rfl, g1⟩, -⟩ := hs'
      exact k1 (x' 4) (x' 5) (x' 6) i1 f0 f1 f2 f3 f4 e0 e1 e2 e3 e4 e5 t0 g1
  · obtain ⟨f0, f1, f2, f3, f4, -, hσ⟩ := hJ
    obtain ⟨e0, e1, e2, e3, e4, e5, -⟩ := hE'
    obtain ⟨t0, -⟩ := hT'
    obtain ⟨p0, p1, p2, p3, p4, p5, -⟩ := hL'
    obtain rfl := sg_tn hs'
    exact k2 (x' 4) (x' 5) (x' 6) L' f0 f1 f2 f3 f4 e0 e1 e2 e3 e4 e5 t0 p0 p1 p2 p3 p4 p5
def sg_il_b3_Z : List sg_z := [(0, [], [.inl (false, (0, .ofNat 0, .ofNat 1))], [(2, 3, (4, .ofNat 1, .ofNat 0), (2, .ofNat 1, .ofNat 0), (0, .ofNat 0, .ofNat 0))], [(1, [(.ofNat 0, .ofNat 60)]), (2, [(.ofNat 1, .ofNat 20)]), (3, [(.ofNat 0, .ofNat 1000)]), (4, [(.ofNat 1, .ofNat 20)])], [], []),
  (29, [(0, .inr (.inl [64])), (1, .inr (.inl [120])), (2, .inl (false, (1, .ofNat 1, .ofNat 0))), (3, .inl (false, (2, .ofNat 1, .ofNat 0))), (4, .inl (false, (3, .ofNat 1, .ofNat 0))), (5, .inl (false, (4, .ofNat 1, .ofNat 0)))], [], [(2, 2, (4, .ofNat 1, .ofNat 0), (2, .ofNat 1, .ofNat 0), (0, .ofNat 0, .ofNat 0))], [(1, [(.ofNat 0, .ofNat 60)]), (2, [(.ofNat 1, .ofNat 20)]), (3, [(.ofNat 0, .ofNat 1000)]), (4, [(.ofNat 0, .ofNat 19)])], [], [])]
set_option maxRecDepth 1000000 in
theorem sg_il_b3_g : sg_go [] [28] 3000 11 22 0 5 [(0, [(.ofNat 0, .ofNat 0)]), (1, [(.ofNat 0, .ofNat 60)]), (2, [(.ofNat 1, .ofNat 20)]), (3, [(.ofNat 0, .ofNat 1000)]), (4, [(.ofNat 0, .ofNat 20)])] [] [] [] [(0, .inr (.inl [64])), (1, .inr (.inl [120])), (2, .inl (false, (1, .ofNat 1, .ofNat 0))), (3, .inl (false, (2, .ofNat 1, .ofNat 0))), (4, .inl (false, (3, .ofNat 1, .ofNat 0))), (5, .inl (false, (4, .ofNat 1, .ofNat 0)))] [] [] sg_il_b3_Z = true := by decide +kernel
set_option maxRecDepth 100000 in
theorem sg_il_b3 {Q : Option Value × am_S → Prop} {d : Nat} {S : am_S} {L : am_L} {x1 x2 x3 x4 : Int} (hd : 0 ≤ d) (hP : ax_P0 none S) (l0 : lc L 0 64) (l1 : lc L 1 120) (l2 : li L 2 x1) (l3 : li L 3 x2) (l4 : li L 4 x3) (l5 : li L 5 x4) (b1 : (0 ≤ x1 ∧ x1 ≤ 60)) (b2 : (1 ≤ x2 ∧ x2 ≤ 20)) (b3 : (0 ≤ x3 ∧ x3 ≤ 1000)) (b4 : (0 ≤ x4 ∧ x4 ≤ 20))
    (k0 : ∀ (i1 : Int32), x2 ≤ x4 → (0 ≤ x1 ∧ x1 ≤ 60) → (1 ≤ x2 ∧ x2 ≤ 20) → (0 ≤ x3 ∧ x3 ≤ 1000) → (1 ≤ x4 ∧ x4 ≤ 20) → i1.toInt = 1 → Q (some (.int i1), S))
    (k1 : ∀ (L' : am_L), x4 < x2 → (0 ≤ x1 ∧ x1 ≤ 60) → (1 ≤ x2 ∧ x2 ≤ 20) → (0 ≤ x3 ∧ x3 ≤ 1000) → (0 ≤ x4 ∧ x4 ≤ 19) → lc L' 0 64 → lc L' 1 120 → li L' 2 x1 → li L' 3 x2 → li L' 4 x3 → li L' 5 x4 → am_V none d 11 28 L' ([]) S Q) : am_V none d 11 22 L ([]) S Q := by
  refine sg_use sg_il_b3_g hd hP (sg_xs [0, x1, x2, x3, x4]) ⟨⟨Int.le_refl 0, Int.le_refl 0⟩, b1, b2, b3, b4, trivial⟩ trivial trivial trivial ⟨l0, l1, l2, l3, l4, l5, trivial⟩ trivial ?_
  intro z hz x' L' st' S' hx hP' hW hL' hs' hJ hE' hT' hD'
  have q1 : x' 1 = x1 := hx 1 (by decide)
  subst q1
  have q2 : x' 2 = x2 := hx 2 (by decide)
  subst q2
  have q3 : x' 3 = x3 := hx 3 (by decide)
  subst q3
  have q4 : x' 4 = x4 := hx 4 (by decide)
  subst q4
  have eS : S' = S := hW.1 rfl
  subst eS
  simp only [sg_il_b3_Z, List.mem_cons, List.not_mem_nil, or_false] at hz
  rcases hz with rfl | rfl
  · obtain ⟨f0, hσ⟩ := hJ
    obtain ⟨e0, e1, e2, e3, -⟩ := hE'
    intro v hv
    subst hv
    cases v with
    | none => exact hs'.elim
    | some v1 =>
      obtain ⟨⟨i1, rfl, g1⟩, -⟩ := hs'
      exact k0 i1 f0 e0 e1 e2 e3 g1
  · obtain ⟨f0, hσ⟩ := hJ
    obtain ⟨e0, e1, e2, e3, -⟩ := hE'
    obtain ⟨p0, p1, p2, p3, p4, p5, -⟩ := hL'
    obtain rfl := sg_tn hs'
    exact k1 L' f0 e0 e1 e2 e3 p0 p1 p2 p3 p4 p5
def sg_il_c3_Z : List sg_z := [(23, [(0, .inr (.inl [64])), (1, .inr (.inl [120])), (2, .inl (false, (1, .ofNat 1, .ofNat 0))), (3, .inl (false, (2, .ofNat 1, .ofNat 0))), (4, .inl (false, (3, .ofNat 1, .ofNat 0))), (5, .inl (false, (4, .ofNat 1, .ofNat 1))), (6, .inl (true, (8, .ofNat 1, .ofNat 0)))], [], [(2, 5, (8, .ofNat 1, .ofNat 0), (3, .ofNat 1, .ofNat 0), (0, .ofNat 0, .ofNat 0)), (2, 3, (8, .ofNat 1, .ofNat 0), (0, .ofNat 0, .ofNat 0), (0, .ofNat 0, .ofNat 0)), (0, 121, (5, .ofNat 1, .ofNat 0), (7, .ofNat 1, .ofNat 0), (0, .ofNat 0, .ofNat 0)), (0, 65, (4, .ofNat 1, .ofNat 0), (6, .ofNat 1, .ofNat 0), (0, .ofNat 0, .ofNat 0))], [(1, [(.ofNat 0, .ofNat 60)]), (2, [(.ofNat 1, .ofNat 20)]), (3, [(.ofNat 0, .ofNat 1000)]), (4, [(.ofNat 0, .ofNat 19)]), (5, [(.ofNat 0, .ofNat 59)]), (8, [(.ofNat 0, .ofNat 1000)])], [((6, .ofNat 1, .ofNat 0), (7, .negSucc 0, .ofNat 0), (8, .ofNat 1, .ofNat 0)), ((1, .ofNat 1, .ofNat 0), (4, .ofNat 1, .ofNat 0), (5, .ofNat 1, .ofNat 0))], []),
  (0, [], [.inl (false, (0, .ofNat 0, .ofNat 0))], [(2, 4, (8, .ofNat 1, .ofNat 0), (3, .ofNat 1, .ofNat 0), (0, .ofNat 0, .ofNat 0)), (2, 3, (8, .ofNat 1, .ofNat 0), (0, .ofNat 0, .ofNat 0), (0, .ofNat 0, .ofNat 0)), (0, 121, (5, .ofNat 1, .ofNat 0), (7, .ofNat 1, .ofNat 0), (0, .ofNat 0, .ofNat 0)), (0, 65, (4, .ofNat 1, .ofNat 0), (6, .ofNat 1, .ofNat 0), (0, .ofNat 0, .ofNat 0))], [(1, [(.ofNat 0, .ofNat 60)]), (2, [(.ofNat 1, .ofNat 20)]), (3, [(.ofNat 0, .ofNat 1000)]), (4, [(.ofNat 0, .ofNat 19)]), (5, [(.ofNat 0, .ofNat 59)]), (8, [(.ofNat 1, .ofNat 4294967295)])], [((6, .ofNat 1, .ofNat 0), (7, .negSucc 0, .ofNat 0), (8, .ofNat 1, .ofNat 0)), ((1, .ofNat 1, .ofNat 0), (4, .ofNat 1, .ofNat 0), (5, .ofNat 1, .ofNat 0))], []),
  (23, [(0, .inr (.inl [64])), (1, .inr (.inl [120])), (2, .inl (false, (1, .ofNat 1, .ofNat 0))), (3, .inl (false, (2, .ofNat 1, .ofNat 0))), (4, .inl (false, (3, .ofNat 1, .ofNat 0))), (5, .inl (false, (4, .ofNat 1, .ofNat 1))), (6, .inl (true, (8, .ofNat 1, .ofNat 0)))], [], [(2, 5, (8, .negSucc 0, .ofNat 0), (3, .ofNat 1, .ofNat 0), (0, .ofNat 0, .ofNat 0)), (2, 2, (8, .ofNat 1, .ofNat 0), (0, .ofNat 0, .ofNat 0), (0, .ofNat 0, .ofNat 0)), (0, 121, (5, .ofNat 1, .ofNat 0), (7, .ofNat 1, .ofNat 0), (0, .ofNat 0, .ofNat 0)), (0, 65, (4, .ofNat 1, .ofNat 0), (6, .ofNat 1, .ofNat 0), (0, .ofNat 0, .ofNat 0))], [(1, [(.ofNat 0, .ofNat 60)]), (2, [(.ofNat 1, .ofNat 20)]), (3, [(.ofNat 1, .ofNat 1000)]), (4, [(.ofNat 0, .ofNat 19)]), (5, [(.ofNat 0, .ofNat 59)]), (8, [(.negSucc 999, .negSucc 0)])], [((6, .ofNat 1, .ofNat 0), (7, .negSucc 0, .ofNat 0), (8, .ofNat 1, .ofNat 0)), ((1, .ofNat 1, .ofNat 0), (4, .ofNat 1, .ofNat 0), (5, .ofNat 1, .ofNat 0))], []),
  (0, [], [.inl (false, (0, .ofNat 0, .ofNat 0))], [(2, 4, (8, .negSucc 0, .ofNat 0), (3, .ofNat 1, .ofNat 0), (0, .ofNat 0, .ofNat 0)), (2, 2, (8, .ofNat 1, .ofNat 0), (0, .ofNat 0, .ofNat 0), (0, .ofNat 0, .ofNat 0)), (0, 121, (5, .ofNat 1, .ofNat 0), (7, .ofNat 1, .ofNat 0), (0, .ofNat 0, .ofNat 0)), (0, 65, (4, .ofNat 1, .ofNat 0), (6, .ofNat 1, .ofNat 0), (0, .ofNat 0, .ofNat 0))], [(1, [(.ofNat 0, .ofNat 60)]), (2, [(.ofNat 1, .ofNat 20)]), (3, [(.ofNat 0, .ofNat 1000)]), (4, [(.ofNat 0, .ofNat 19)]), (5, [(.ofNat 0, .ofNat 59)]), (8, [(.negSucc 4294967294, .negSucc 0)])], [((6, .ofNat 1, .ofNat 0), (7, .negSucc 0, .ofNat 0), (8, .ofNat 1, .ofNat 0)), ((1, .ofNat 1, .ofNat 0), (4, .ofNat 1, .ofNat 0), (5, .ofNat 1, .ofNat 0))], [])]
set_option maxRecDepth 1000000 in
theorem sg_il_c3_g : sg_go [] [22] 3000 11 28 1 6 [(0, [(.ofNat 0, .ofNat 0)]), (1, [(.ofNat 0, .ofNat 60)]), (2, [(.ofNat 1, .ofNat 20)]), (3, [(.ofNat 0, .ofNat 1000)]), (4, [(.ofNat 0, .ofNat 19)]), (5, [(.ofNat 0, .ofNat 59)])] [] [((1, .ofNat 1, .ofNat 0), (4, .ofNat 1, .ofNat 0), (5, .ofNat 1, .ofNat 0))] [] [(0, .inr (.inl [64])), (1, .inr (.inl [120])), (2, .inl (false, (1, .ofNat 1, .ofNat 0))), (3, .inl (false, (2, .ofNat 1, .ofNat 0))), (4, .inl (false, (3, .ofNat 1, .ofNat 0))), (5, .inl (false, (4, .ofNat 1, .ofNat 0)))] [] [] sg_il_c3_Z = true := by decide +kernel
set_option maxRecDepth 100000 in
theorem sg_il_c3 {Q : Option Value × am_S → Prop} {d : Nat} {S : am_S} {L : am_L} {x1 x2 x3 x4 x5 : Int} (hd : 1 ≤ d) (hP : ax_P0 none S) (l0 : lc L 0 64) (l1 : lc L 1 120) (l2 : li L 2 x1) (l3 : li L 3 x2) (l4 : li L 4 x3) (l5 : li L 5 x4) (b1 : (0 ≤ x1 ∧ x1 ≤ 60)) (b2 : (1 ≤ x2 ∧ x2 ≤ 20)) (b3 : (0 ≤ x3 ∧ x3 ≤ 1000)) (b4 : (0 ≤ x4 ∧ x4 ≤ 19)) (b5 : (0 ≤ x5 ∧ x5 ≤ 59)) (t0 : x1 + x4 = x5)
    (k0 : ∀ (x6 x7 x8 : Int) (L' : am_L), rd S 65 x4 = x6 → rd S 121 x5 = x7 → 0 ≤ x8 → x8 ≤ x3 → (0 ≤ x1 ∧ x1 ≤ 60) → (1 ≤ x2 ∧ x2 ≤ 20) → (0 ≤ x3 ∧ x3 ≤ 1000) → (0 ≤ x4 ∧ x4 ≤ 19) → (0 ≤ x5 ∧ x5 ≤ 59) → (0 ≤ x8 ∧ x8 ≤ 1000) → x6 + ((-1) * x7 + 0) = x8 → x1 + x4 = x5 → lc L' 0 64 → lc L' 1 120 → li L' 2 x1 → li L' 3 x2 → li L' 4 x3 → li L' 5 (x4 + 1) → lj L' 6 x8 → am_V none d 11 22 L' ([]) S Q)
    (k1 : ∀ (x6 x7 x8 : Int) (i1 : Int32), rd S 65 x4 = x6 → rd S 121 x5 = x7 → 0 ≤ x8 → x3 < x8 → (0 ≤ x1 ∧ x1 ≤ 60) → (1 ≤ x2 ∧ x2 ≤ 20) → (0 ≤ x3 ∧ x3 ≤ 1000) → (0 ≤ x4 ∧ x4 ≤ 19) → (0 ≤ x5 ∧ x5 ≤ 59) → (1 ≤ x8 ∧ x8 ≤ 4294967295) → x6 + ((-1) * x7 + 0) = x8 → x1 + x4 = x5 → i1.toInt = 0 → Q (some (.int i1), S))
    (k2 : ∀ (x6 x7 x8 : Int) (L' : am_L), rd S 65 x4 = x6 → rd S 121 x5 = x7 → x8 < 0 → (-1) * x8 + 0 ≤ x3 → (0 ≤ x1 ∧ x1 ≤ 60) → (1 ≤ x2 ∧ x2 ≤ 20) → (1 ≤ x3 ∧ x3 ≤ 1000) → (0 ≤ x4 ∧ x4 ≤ 19) → (0 ≤ x5 ∧ x5 ≤ 59) → ((-1000) ≤ x8 ∧ x8 ≤ (-1)) → x6 + ((-1) * x7 + 0) = x8 → x1 + x4 = x5 → lc L' 0 64 → lc L' 1 120 → li L' 2 x1 → li L' 3 x2 → li L' 4 x3 → li L' 5 (x4 + 1) → lj L' 6 x8 → am_V none d 11 22 L' ([]) S Q)
    (k3 : ∀ (x6 x7 x8 : Int) (i1 : Int32), rd S 65 x4 = x6 → rd S 121 x5 = x7 → x8 < 0 → x3 < (-1) * x8 + 0 → (0 ≤ x1 ∧ x1 ≤ 60) → (1 ≤ x2 ∧ x2 ≤ 20) → (0 ≤ x3 ∧ x3 ≤ 1000) → (0 ≤ x4 ∧ x4 ≤ 19) → (0 ≤ x5 ∧ x5 ≤ 59) → ((-4294967295) ≤ x8 ∧ x8 ≤ (-1)) → x6 + ((-1) * x7 + 0) = x8 → x1 + x4 = x5 → i1.toInt = 0 → Q (some (.int i1), S)) : am_V none d 11 28 L ([]) S Q := by
  refine sg_use sg_il_c3_g hd hP (sg_xs [0, x1, x2, x3, x4, x5]) ⟨⟨Int.le_refl 0, Int.le_refl 0⟩, b1, b2, b3, b4, b5, trivial⟩ trivial ⟨t0, trivial⟩ trivial ⟨l0, l1, l2, l3, l4, l5, trivial⟩ trivial ?_
  intro z hz x' L' st' S' hx hP' hW hL' hs' hJ hE' hT' hD'
  have q1 : x' 1 = x1 := hx 1 (by decide)
  subst q1
  have q2 : x' 2 = x2 := hx 2 (by decide)
  subst q2
  have q3 : x' 3 = x3 := hx 3 (by decide)
  subst q3
  have q4 : x' 4 = x4 := hx 4 (by decide)
  subst q4
  have q5 : x' 5 = x5 := hx 5 (by decide)
  subst q5
  have eS : S' = S := hW.1 rfl
  subst eS
  simp only [sg_il_c3_Z, List.mem_cons, List.not_mem_nil, or_false] at hz
  rcases hz with rfl | rfl | rfl | rfl
  · obtain ⟨f0, f1, f2, f3, hσ⟩ := hJ
    obtain ⟨e0, e1, e2, e3, e4, e5, -⟩ := hE'
    obtain ⟨t0, t1, -⟩ := hT'
    obtain ⟨p0, p1, p2, p3, p4, p5, p6, -⟩ := hL'
    obtain rfl := sg_tn hs'
    exact k0 (x' 6) (x' 7) (x' 8) L' f0 f1 f2 f3 e0 e1 e2 e3 e4 e5 t0 t1 p0 p1 p2 p3 p4 p5 p6
  · obtain ⟨f0, f1, f2, f3, hσ⟩ := hJ
    obtain ⟨e0, e1, e2, e3, e4, e5, -⟩ := hE'
    obtain ⟨t0, t1, -⟩ := hT'
    intro v hv
    subst hv
    cases v with
    | none => exact hs'.elim
    | some v1 =>
      obtain ⟨⟨i1, rfl, g1⟩, -⟩ := hs'
      exact k1 (x' 6) (x' 7) (x' 8) i1 f0 f1 f2 f3 e0 e1 e2 e3 e4 e5 t0 t1 g1
  · obtain ⟨f0, f1, f2, f3, hσ⟩ := hJ
    obtain ⟨e0, e1, e2, e3, e4, e5, -⟩ := hE'
    obtain ⟨t0, t1, -⟩ := hT'
    obtain ⟨p0, p1, p2, p3, p4, p5, p6, -⟩ := hL'
    obtain rfl := sg_tn hs'
    exact k2 (x' 6) (x' 7) (x' 8) L' f0 f1 f2 f3 e0 e1 e2 e3 e4 e5 t0 t1 p0 p1 p2 p3 p4 p5 p6
  · obtain ⟨f0, f1, f2, f3, hσ⟩ := hJ
    obtain ⟨e0, e1, e2, e3, e4, e5, -⟩ := hE'
    obtain ⟨t0, t1, -⟩ := hT'
    intro v hv
    subst hv
    cases v with
    | none => exact hs'.elim
    | some v1 =>
      obtain ⟨⟨i1, rfl, g1⟩, -⟩ := hs'
      exact k3 (x' 6) (x' 7) (x' 8) i1 f0 f1 f2 f3 e0 e1 e2 e3 e4 e5 t0 t1 g1
