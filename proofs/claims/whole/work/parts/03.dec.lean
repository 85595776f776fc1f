def iX0_init : dk_T := [(0, .aload_n 0, 1), (1, .invokespecial 1, 3), (4, .return_, 1)]
set_option maxRecDepth 100000 in
theorem kX0_init : dk_ok cX0_init iX0_init = true := by decide +kernel
def iX0_citedAt : dk_T := [(0, .iload_n 1, 1), (1, .ifCond .ne 10, 3), (4, .aload_n 0, 1), (5, .getfield 7, 3), (8, .goto 19, 3), (11, .iload_n 1, 1), (12, .iconst 1, 1), (13, .if_icmp .ne 10, 3), (16, .aload_n 0, 1), (17, .getfield 13, 3), (20, .goto 7, 3), (23, .aload_n 0, 1), (24, .getfield 16, 3), (27, .ireturn, 1)]
set_option maxRecDepth 100000 in
theorem kX0_citedAt : dk_ok cX0_citedAt iX0_citedAt = true := by decide +kernel
def iX0_refersTo : dk_T := [(0, .iconst 0, 1), (1, .istore_n 2, 1), (2, .iload_n 2, 1), (3, .aload_n 0, 1), (4, .getfield 19, 3), (7, .if_icmp .ge 20, 3), (10, .aload_n 0, 1), (11, .iload_n 2, 1), (12, .invokevirtual 22, 3), (15, .iload_n 1, 1), (16, .if_icmp .ne 5, 3), (19, .iconst 1, 1), (20, .ireturn, 1), (21, .iinc 2 1, 3), (24, .goto (-22), 3), (27, .iconst 0, 1), (28, .ireturn, 1)]
set_option maxRecDepth 100000 in
theorem kX0_refersTo : dk_ok cX0_refersTo iX0_refersTo = true := by decide +kernel
def iX0_addCited : dk_T := [(0, .aload_n 0, 1), (1, .getfield 19, 3), (4, .ifCond .ne 11, 3), (7, .aload_n 0, 1), (8, .iload_n 1, 1), (9, .putfield 7, 3), (12, .goto 24, 3), (15, .aload_n 0, 1), (16, .getfield 19, 3), (19, .iconst 1, 1), (20, .if_icmp .ne 11, 3), (23, .aload_n 0, 1), (24, .iload_n 1, 1), (25, .putfield 13, 3), (28, .goto 8, 3), (31, .aload_n 0, 1), (32, .iload_n 1, 1), (33, .putfield 16, 3), (36, .aload_n 0, 1), (37, .dup, 1), (38, .getfield 19, 3), (41, .iconst 1, 1), (42, .iadd, 1), (43, .putfield 19, 3), (46, .return_, 1)]
set_option maxRecDepth 100000 in
theorem kX0_addCited : dk_ok cX0_addCited iX0_addCited = true := by decide +kernel
def iX0_copyCited : dk_T := [(0, .aload_n 0, 1), (1, .aload_n 1, 1), (2, .getfield 19, 3), (5, .putfield 19, 3), (8, .aload_n 0, 1), (9, .aload_n 1, 1), (10, .getfield 7, 3), (13, .putfield 7, 3), (16, .aload_n 0, 1), (17, .aload_n 1, 1), (18, .getfield 13, 3), (21, .putfield 13, 3), (24, .aload_n 0, 1), (25, .aload_n 1, 1), (26, .getfield 16, 3), (29, .putfield 16, 3), (32, .return_, 1)]
set_option maxRecDepth 100000 in
theorem kX0_copyCited : dk_ok cX0_copyCited iX0_copyCited = true := by decide +kernel
def iX1_init : dk_T := [(0, .aload_n 0, 1), (1, .invokespecial 1, 3), (4, .return_, 1)]
set_option maxRecDepth 100000 in
theorem kX1_init : dk_ok cX1_init iX1_init = true := by decide +kernel
def iX1_begin : dk_T := [(0, .aload_n 0, 1), (1, .iload_n 1, 1), (2, .putfield 7, 3), (5, .aload_n 0, 1), (6, .iconst 0, 1), (7, .putfield 13, 3), (10, .return_, 1)]
set_option maxRecDepth 100000 in
theorem kX1_begin : dk_ok cX1_begin iX1_begin = true := by decide +kernel
def iX1_add : dk_T := [(0, .aload_n 0, 1), (1, .getfield 13, 3), (4, .ifCond .ne 11, 3), (7, .aload_n 0, 1), (8, .iload_n 1, 1), (9, .putfield 17, 3), (12, .goto 40, 3), (15, .aload_n 0, 1), (16, .getfield 13, 3), (19, .iconst 1, 1), (20, .if_icmp .ne 11, 3), (23, .aload_n 0, 1), (24, .iload_n 1, 1), (25, .putfield 20, 3), (28, .goto 24, 3), (31, .aload_n 0, 1), (32, .getfield 13, 3), (35, .iconst 2, 1), (36, .if_icmp .ne 11, 3), (39, .aload_n 0, 1), (40, .iload_n 1, 1), (41, .putfield 23, 3), (44, .goto 8, 3), (47, .aload_n 0, 1), (48, .iload_n 1, 1), (49, .putfield 26, 3), (52, .aload_n 0, 1), (53, .dup, 1), (54, .getfield 13, 3), (57, .iconst 1, 1), (58, .iadd, 1), (59, .putfield 13, 3), (62, .return_, 1)]
set_option maxRecDepth 100000 in
theorem kX1_add : dk_ok cX1_add iX1_add = true := by decide +kernel
def iX2_init : dk_T := [(0, .aload_n 0, 1), (1, .invokespecial 3, 3), (4, .aload_n 0, 1), (5, .bipush 9, 2), (7, .anewarray 9, 3), (10, .putfield 11, 3), (13, .iconst 0, 1), (14, .istore_n 1, 1), (15, .iload_n 1, 1), (16, .bipush 8, 2), (18, .if_icmp .gt 22, 3), (21, .aload_n 0, 1), (22, .getfield 11, 3), (25, .iload_n 1, 1), (26, .new 9, 3), (29, .dup, 1), (30, .invokespecial 17, 3), (33, .aastore, 1), (34, .iinc 1 1, 3), (37, .goto (-22), 3), (40, .return_, 1)]
set_option maxRecDepth 100000 in
theorem kX2_init : dk_ok cX2_init iX2_init = true := by decide +kernel
def iX2_prepare : dk_T := [(0, .aload_n 0, 1), (1, .getfield 11, 3), (4, .aload_n 0, 1), (5, .getfield 18, 3), (8, .aaload, 1), (9, .aload_n 1, 1), (10, .invokevirtual 22, 3), (13, .return_, 1)]
set_option maxRecDepth 100000 in
theorem kX2_prepare : dk_ok cX2_prepare iX2_prepare = true := by decide +kernel
def iX2_bringBackPrepared : dk_T := [(0, .aload_n 1, 1), (1, .aload_n 0, 1), (2, .getfield 11, 3), (5, .aload_n 0, 1), (6, .getfield 18, 3), (9, .aaload, 1), (10, .invokevirtual 22, 3), (13, .return_, 1)]
set_option maxRecDepth 100000 in
theorem kX2_bringBackPrepared : dk_ok cX2_bringBackPrepared iX2_bringBackPrepared = true := by decide +kernel
def iX2_keepPrepared : dk_T := [(0, .aload_n 0, 1), (1, .getfield 18, 3), (4, .bipush 8, 2), (6, .if_icmp .ge 14, 3), (9, .aload_n 0, 1), (10, .dup, 1), (11, .getfield 18, 3), (14, .iconst 1, 1), (15, .iadd, 1), (16, .putfield 18, 3), (19, .return_, 1), (20, .aload_n 0, 1), (21, .getfield 11, 3), (24, .iconst 0, 1), (25, .aaload, 1), (26, .astore_n 1, 1), (27, .iconst 0, 1), (28, .istore_n 2, 1), (29, .iload_n 2, 1), (30, .bipush 8, 2), (32, .if_icmp .ge 23, 3), (35, .aload_n 0, 1), (36, .getfield 11, 3), (39, .iload_n 2, 1), (40, .aload_n 0, 1), (41, .getfield 11, 3), (44, .iload_n 2, 1), (45, .iconst 1, 1), (46, .iadd, 1), (47, .aaload, 1), (48, .aastore, 1), (49, .iinc 2 1, 3), (52, .goto (-23), 3), (55, .aload_n 0, 1), (56, .getfield 11, 3), (59, .bipush 8, 2), (61, .aload_n 1, 1), (62, .aastore, 1), (63, .return_, 1)]
set_option maxRecDepth 100000 in
theorem kX2_keepPrepared : dk_ok cX2_keepPrepared iX2_keepPrepared = true := by decide +kernel
def iX2_bringBackLatest : dk_T := [(0, .aload_n 0, 1), (1, .getfield 18, 3), (4, .ifCond .le 26, 3), (7, .aload_n 0, 1), (8, .dup, 1), (9, .getfield 18, 3), (12, .iconst 1, 1), (13, .isub, 1), (14, .putfield 18, 3), (17, .aload_n 1, 1), (18, .aload_n 0, 1), (19, .getfield 11, 3), (22, .aload_n 0, 1), (23, .getfield 18, 3), (26, .aaload, 1), (27, .invokevirtual 22, 3), (30, .return_, 1)]
set_option maxRecDepth 100000 in
theorem kX2_bringBackLatest : dk_ok cX2_bringBackLatest iX2_bringBackLatest = true := by decide +kernel
def iX2_forget : dk_T := [(0, .aload_n 0, 1), (1, .iconst 0, 1), (2, .putfield 18, 3), (5, .return_, 1)]
set_option maxRecDepth 100000 in
theorem kX2_forget : dk_ok cX2_forget iX2_forget = true := by decide +kernel
def iX3_init : dk_T := [(0, .aload_n 0, 1), (1, .invokespecial 3, 3), (4, .aload_n 0, 1), (5, .bipush 60, 2), (7, .newarray .char, 2), (9, .putfield 9, 3), (12, .return_, 1)]
set_option maxRecDepth 100000 in
theorem kX3_init : dk_ok cX3_init iX3_init = true := by decide +kernel
def iX3_clear : dk_T := [(0, .aload_n 0, 1), (1, .iconst 0, 1), (2, .putfield 15, 3), (5, .return_, 1)]
set_option maxRecDepth 100000 in
theorem kX3_clear : dk_ok cX3_clear iX3_clear = true := by decide +kernel
def iX3_put : dk_T := [(0, .aload_n 0, 1), (1, .getfield 15, 3), (4, .bipush 60, 2), (6, .if_icmp .ge 23, 3), (9, .aload_n 0, 1), (10, .getfield 9, 3), (13, .aload_n 0, 1), (14, .getfield 15, 3), (17, .iload_n 1, 1), (18, .castore, 1), (19, .aload_n 0, 1), (20, .dup, 1), (21, .getfield 15, 3), (24, .iconst 1, 1), (25, .iadd, 1), (26, .putfield 15, 3), (29, .return_, 1)]
set_option maxRecDepth 100000 in
theorem kX3_put : dk_ok cX3_put iX3_put = true := by decide +kernel
def iX3_putMarked : dk_T := [(0, .aload_n 0, 1), (1, .iload_n 1, 1), (2, .invokevirtual 19, 3), (5, .aload_n 0, 1), (6, .iload_n 2, 1), (7, .invokevirtual 23, 3), (10, .return_, 1)]
set_option maxRecDepth 100000 in
theorem kX3_putMarked : dk_ok cX3_putMarked iX3_putMarked = true := by decide +kernel
def iX3_putNumber : dk_T := [(0, .iconst 1, 1), (1, .istore_n 2, 1), (2, .iload_n 1, 1), (3, .bipush 10, 2), (5, .idiv, 1), (6, .istore_n 3, 1), (7, .iload_n 3, 1), (8, .ifCond .le 14, 3), (11, .iinc 2 1, 3), (14, .iload_n 3, 1), (15, .bipush 10, 2), (17, .idiv, 1), (18, .istore_n 3, 1), (19, .goto (-12), 3), (22, .iload_n 2, 1), (23, .bipush 60, 2), (25, .aload_n 0, 1), (26, .getfield 15, 3), (29, .isub, 1), (30, .if_icmp .le 4, 3), (33, .return_, 1), (34, .iload_n 1, 1), (35, .istore_n 3, 1), (36, .aload_n 0, 1), (37, .getfield 15, 3), (40, .iload_n 2, 1), (41, .iadd, 1), (42, .iconst 1, 1), (43, .isub, 1), (44, .istore 4, 2), (46, .iload 4, 2), (48, .aload_n 0, 1), (49, .getfield 15, 3), (52, .if_icmp .lt 29, 3), (55, .aload_n 0, 1), (56, .getfield 9, 3), (59, .iload 4, 2), (61, .bipush 48, 2), (63, .iload_n 3, 1), (64, .bipush 10, 2), (66, .irem, 1), (67, .iadd, 1), (68, .i2c, 1), (69, .castore, 1), (70, .iload_n 3, 1), (71, .bipush 10, 2), (73, .idiv, 1), (74, .istore_n 3, 1), (75, .iinc 4 (-1), 3), (78, .goto (-32), 3), (81, .aload_n 0, 1), (82, .dup, 1), (83, .getfield 15, 3), (86, .iload_n 2, 1), (87, .iadd, 1), (88, .putfield 15, 3), (91, .return_, 1)]
set_option maxRecDepth 100000 in
theorem kX3_putNumber : dk_ok cX3_putNumber iX3_putNumber = true := by decide +kernel
def iX3_at : dk_T := [(0, .iload_n 1, 1), (1, .ifCond .lt 20, 3), (4, .iload_n 1, 1), (5, .aload_n 0, 1), (6, .getfield 15, 3), (9, .if_icmp .ge 12, 3), (12, .aload_n 0, 1), (13, .getfield 9, 3), (16, .iload_n 1, 1), (17, .caload, 1), (18, .goto 4, 3), (21, .iconst 0, 1), (22, .ireturn, 1)]
set_option maxRecDepth 100000 in
theorem kX3_at : dk_ok cX3_at iX3_at = true := by decide +kernel
def iX4_init : dk_T := [(0, .aload_n 0, 1), (1, .invokespecial 1, 3), (4, .return_, 1)]
set_option maxRecDepth 100000 in
theorem kX4_init : dk_ok cX4_init iX4_init = true := by decide +kernel
def iX4_forgetVotesAndCitations : dk_T := [(0, .aload_n 0, 1), (1, .iconst 0, 1), (2, .putfield 7, 3), (5, .aload_n 0, 1), (6, .iconst 0, 1), (7, .putfield 13, 3), (10, .aload_n 0, 1), (11, .iconst 0, 1), (12, .putfield 16, 3), (15, .return_, 1)]
set_option maxRecDepth 100000 in
theorem kX4_forgetVotesAndCitations : dk_ok cX4_forgetVotesAndCitations iX4_forgetVotesAndCitations = true := by decide +kernel
def iX4_comesBefore : dk_T := [(0, .aload_n 0, 1), (1, .getfield 19, 3), (4, .aload_n 1, 1), (5, .getfield 19, 3), (8, .if_icmp .eq 20, 3), (11, .aload_n 0, 1), (12, .getfield 19, 3), (15, .aload_n 1, 1), (16, .getfield 19, 3), (19, .if_icmp .le 7, 3), (22, .iconst 1, 1), (23, .goto 4, 3), (26, .iconst 0, 1), (27, .ireturn, 1), (28, .aload_n 0, 1), (29, .getfield 22, 3), (32, .aload_n 1, 1), (33, .getfield 22, 3), (36, .if_icmp .eq 20, 3), (39, .aload_n 0, 1), (40, .getfield 22, 3), (43, .aload_n 1, 1), (44, .getfield 22, 3), (47, .if_icmp .le 7, 3), (50, .iconst 1, 1), (51, .goto 4, 3), (54, .iconst 0, 1), (55, .ireturn, 1), (56, .aload_n 0, 1), (57, .getfield 25, 3), (60, .aload_n 1, 1), (61, .getfield 25, 3), (64, .if_icmp .ge 7, 3), (67, .iconst 1, 1), (68, .goto 4, 3), (71, .iconst 0, 1), (72, .ireturn, 1)]
set_option maxRecDepth 100000 in
theorem kX4_comesBefore : dk_ok cX4_comesBefore iX4_comesBefore = true := by decide +kernel
def iX4_hasVoteFor : dk_T := [(0, .aload_n 0, 1), (1, .getfield 7, 3), (4, .iload_n 1, 1), (5, .ishr, 1), (6, .iconst 1, 1), (7, .iand, 1), (8, .iconst 1, 1), (9, .if_icmp .ne 7, 3), (12, .iconst 1, 1), (13, .goto 4, 3), (16, .iconst 0, 1), (17, .ireturn, 1)]
set_option maxRecDepth 100000 in
theorem kX4_hasVoteFor : dk_ok cX4_hasVoteFor iX4_hasVoteFor = true := by decide +kernel
def iX4_hasVoteAgainst : dk_T := [(0, .aload_n 0, 1), (1, .getfield 13, 3), (4, .iload_n 1, 1), (5, .ishr, 1), (6, .iconst 1, 1), (7, .iand, 1), (8, .iconst 1, 1), (9, .if_icmp .ne 7, 3), (12, .iconst 1, 1), (13, .goto 4, 3), (16, .iconst 0, 1), (17, .ireturn, 1)]
set_option maxRecDepth 100000 in
theorem kX4_hasVoteAgainst : dk_ok cX4_hasVoteAgainst iX4_hasVoteAgainst = true := by decide +kernel
def iX4_addVote : dk_T := [(0, .iload_n 2, 1), (1, .ifCond .eq 18, 3), (4, .aload_n 0, 1), (5, .dup, 1), (6, .getfield 7, 3), (9, .iconst 1, 1), (10, .iload_n 1, 1), (11, .ishl, 1), (12, .ior, 1), (13, .putfield 7, 3), (16, .goto 15, 3), (19, .aload_n 0, 1), (20, .dup, 1), (21, .getfield 13, 3), (24, .iconst 1, 1), (25, .iload_n 1, 1), (26, .ishl, 1), (27, .ior, 1), (28, .putfield 13, 3), (31, .return_, 1)]
set_option maxRecDepth 100000 in
theorem kX4_addVote : dk_ok cX4_addVote iX4_addVote = true := by decide +kernel
def iX4_countFor : dk_T := [(0, .aload_n 0, 1), (1, .getfield 7, 3), (4, .invokestatic 28, 3), (7, .ireturn, 1)]
set_option maxRecDepth 100000 in
theorem kX4_countFor : dk_ok cX4_countFor iX4_countFor = true := by decide +kernel
def iX4_countAgainst : dk_T := [(0, .aload_n 0, 1), (1, .getfield 13, 3), (4, .invokestatic 28, 3), (7, .ireturn, 1)]
set_option maxRecDepth 100000 in
theorem kX4_countAgainst : dk_ok cX4_countAgainst iX4_countAgainst = true := by decide +kernel
def iX4_countVotes : dk_T := [(0, .aload_n 0, 1), (1, .invokevirtual 34, 3), (4, .aload_n 0, 1), (5, .invokevirtual 38, 3), (8, .iadd, 1), (9, .ireturn, 1)]
set_option maxRecDepth 100000 in
theorem kX4_countVotes : dk_ok cX4_countVotes iX4_countVotes = true := by decide +kernel
def iX4_copyFrom : dk_T := [(0, .aload_n 0, 1), (1, .aload_n 1, 1), (2, .invokevirtual 41, 3), (5, .aload_n 0, 1), (6, .aload_n 1, 1), (7, .getfield 25, 3), (10, .putfield 25, 3), (13, .aload_n 0, 1), (14, .aload_n 1, 1), (15, .getfield 45, 3), (18, .putfield 45, 3), (21, .aload_n 0, 1), (22, .aload_n 1, 1), (23, .getfield 19, 3), (26, .putfield 19, 3), (29, .aload_n 0, 1), (30, .aload_n 1, 1), (31, .getfield 48, 3), (34, .putfield 48, 3), (37, .aload_n 0, 1), (38, .aload_n 1, 1), (39, .getfield 51, 3), (42, .putfield 51, 3), (45, .aload_n 0, 1), (46, .aload_n 1, 1), (47, .getfield 22, 3), (50, .putfield 22, 3), (53, .aload_n 0, 1), (54, .aload_n 1, 1), (55, .getfield 7, 3), (58, .putfield 7, 3), (61, .aload_n 0, 1), (62, .aload_n 1, 1), (63, .getfield 13, 3), (66, .putfield 13, 3), (69, .return_, 1)]
set_option maxRecDepth 100000 in
theorem kX4_copyFrom : dk_ok cX4_copyFrom iX4_copyFrom = true := by decide +kernel
def iX5_init : dk_T := [(0, .aload_n 0, 1), (1, .invokespecial 1, 3), (4, .return_, 1)]
set_option maxRecDepth 100000 in
theorem kX5_init : dk_ok cX5_init iX5_init = true := by decide +kernel
def iX5_copyFrom : dk_T := [(0, .aload_n 0, 1), (1, .aload_n 1, 1), (2, .invokevirtual 7, 3), (5, .aload_n 0, 1), (6, .aload_n 1, 1), (7, .getfield 13, 3), (10, .putfield 13, 3), (13, .aload_n 0, 1), (14, .aload_n 1, 1), (15, .getfield 17, 3), (18, .putfield 17, 3), (21, .aload_n 0, 1), (22, .aload_n 1, 1), (23, .getfield 20, 3), (26, .putfield 20, 3), (29, .return_, 1)]
set_option maxRecDepth 100000 in
theorem kX5_copyFrom : dk_ok cX5_copyFrom iX5_copyFrom = true := by decide +kernel
def iX6_init : dk_T := [(0, .aload_n 0, 1), (1, .invokespecial 3, 3), (4, .aload_n 0, 1), (5, .bipush 10, 2), (7, .newarray .int, 2), (9, .putfield 9, 3), (12, .aload_n 0, 1), (13, .bipush 10, 2), (15, .newarray .int, 2), (17, .putfield 15, 3), (20, .aload_n 0, 1), (21, .bipush 6, 2), (23, .newarray .int, 2), (25, .putfield 18, 3), (28, .aload_n 0, 1), (29, .bipush 8, 2), (31, .anewarray 21, 3), (34, .putfield 23, 3), (37, .aload_n 0, 1), (38, .bipush 16, 2), (40, .anewarray 27, 3), (43, .putfield 29, 3), (46, .iconst 0, 1), (47, .istore_n 1, 1), (48, .iload_n 1, 1), (49, .bipush 8, 2), (51, .if_icmp .ge 22, 3), (54, .aload_n 0, 1), (55, .getfield 23, 3), (58, .iload_n 1, 1), (59, .new 21, 3), (62, .dup, 1), (63, .invokespecial 33, 3), (66, .aastore, 1), (67, .iinc 1 1, 3), (70, .goto (-22), 3), (73, .iconst 0, 1), (74, .istore_n 1, 1), (75, .iload_n 1, 1), (76, .bipush 16, 2), (78, .if_icmp .ge 22, 3), (81, .aload_n 0, 1), (82, .getfield 29, 3), (85, .iload_n 1, 1), (86, .new 27, 3), (89, .dup, 1), (90, .invokespecial 34, 3), (93, .aastore, 1), (94, .iinc 1 1, 3), (97, .goto (-22), 3), (100, .aload_n 0, 1), (101, .iconst 2, 1), (102, .putfield 35, 3), (105, .return_, 1)]
set_option maxRecDepth 100000 in
theorem kX6_init : dk_ok cX6_init iX6_init = true := by decide +kernel
def iX6_copyFrom_p0 : dk_T := [(0, .aload_n 1, 1), (1, .getfield 9, 3), (4, .iconst 0, 1), (5, .aload_n 0, 1), (6, .getfield 9, 3), (9, .iconst 0, 1), (10, .bipush 10, 2), (12, .invokestatic 39, 3), (15, .aload_n 1, 1), (16, .getfield 15, 3), (19, .iconst 0, 1), (20, .aload_n 0, 1), (21, .getfield 15, 3), (24, .iconst 0, 1), (25, .bipush 10, 2), (27, .invokestatic 39, 3), (30, .aload_n 1, 1), (31, .getfield 18, 3), (34, .iconst 0, 1), (35, .aload_n 0, 1), (36, .getfield 18, 3), (39, .iconst 0, 1), (40, .bipush 6, 2), (42, .invokestatic 39, 3), (45, .iconst 0, 1), (46, .istore_n 2, 1), (47, .iload_n 2, 1), (48, .aload_n 1, 1), (49, .getfield 45, 3), (52, .if_icmp .ge 24, 3), (55, .aload_n 0, 1), (56, .getfield 23, 3), (59, .iload_n 2, 1), (60, .aaload, 1), (61, .aload_n 1, 1), (62, .getfield 23, 3), (65, .iload_n 2, 1), (66, .aaload, 1), (67, .invokevirtual 48, 3), (70, .iinc 2 1, 3), (73, .goto (-26), 3), (76, .iconst 0, 1), (77, .istore_n 2, 1), (78, .iload_n 2, 1), (79, .aload_n 1, 1), (80, .getfield 52, 3), (83, .if_icmp .ge 24, 3), (86, .aload_n 0, 1), (87, .getfield 29, 3), (90, .iload_n 2, 1), (91, .aaload, 1), (92, .aload_n 1, 1), (93, .getfield 29, 3), (96, .iload_n 2, 1), (97, .aaload, 1), (98, .invokevirtual 55, 3), (101, .iinc 2 1, 3), (104, .goto (-26), 3), (107, .aload_n 0, 1), (108, .aload_n 1, 1)]
set_option maxRecDepth 100000 in
theorem kX6_copyFrom_p0 : dk_ok cX6_copyFrom iX6_copyFrom_p0 = true := by decide +kernel
def iX6_copyFrom_p1 : dk_T := [(109, .getfield 58, 3), (112, .putfield 58, 3), (115, .aload_n 0, 1), (116, .aload_n 1, 1), (117, .getfield 61, 3), (120, .putfield 61, 3), (123, .aload_n 0, 1), (124, .aload_n 1, 1), (125, .getfield 45, 3), (128, .putfield 45, 3), (131, .aload_n 0, 1), (132, .aload_n 1, 1), (133, .getfield 52, 3), (136, .putfield 52, 3), (139, .aload_n 0, 1), (140, .aload_n 1, 1), (141, .getfield 35, 3), (144, .putfield 35, 3), (147, .aload_n 0, 1), (148, .aload_n 1, 1), (149, .getfield 64, 3), (152, .putfield 64, 3), (155, .aload_n 0, 1), (156, .aload_n 1, 1), (157, .getfield 67, 3), (160, .putfield 67, 3), (163, .aload_n 0, 1), (164, .aload_n 1, 1), (165, .getfield 70, 3), (168, .putfield 70, 3), (171, .aload_n 0, 1), (172, .aload_n 1, 1), (173, .getfield 73, 3), (176, .putfield 73, 3), (179, .return_, 1)]
set_option maxRecDepth 100000 in
theorem kX6_copyFrom_p1 : dk_ok cX6_copyFrom iX6_copyFrom_p1 = true := by decide +kernel
def iX6_hasStone : dk_T := [(0, .iload_n 1, 1), (1, .ifCond .lt 15, 3), (4, .iload_n 1, 1), (5, .aload_n 0, 1), (6, .getfield 58, 3), (9, .if_icmp .ge 7, 3), (12, .iconst 1, 1), (13, .goto 4, 3), (16, .iconst 0, 1), (17, .ireturn, 1)]
set_option maxRecDepth 100000 in
theorem kX6_hasStone : dk_ok cX6_hasStone iX6_hasStone = true := by decide +kernel
def iX6_hasOfficer : dk_T := [(0, .iload_n 1, 1), (1, .ifCond .lt 15, 3), (4, .iload_n 1, 1), (5, .aload_n 0, 1), (6, .getfield 61, 3), (9, .if_icmp .ge 7, 3), (12, .iconst 1, 1), (13, .goto 4, 3), (16, .iconst 0, 1), (17, .ireturn, 1)]
set_option maxRecDepth 100000 in
theorem kX6_hasOfficer : dk_ok cX6_hasOfficer iX6_hasOfficer = true := by decide +kernel
def iX6_findStoneIn : dk_T := [(0, .iconst 0, 1), (1, .istore_n 2, 1), (2, .iload_n 2, 1), (3, .aload_n 0, 1), (4, .getfield 58, 3), (7, .if_icmp .ge 21, 3), (10, .aload_n 0, 1), (11, .getfield 9, 3), (14, .iload_n 2, 1), (15, .iaload, 1), (16, .iload_n 1, 1), (17, .if_icmp .ne 5, 3), (20, .iload_n 2, 1), (21, .ireturn, 1), (22, .iinc 2 1, 3), (25, .goto (-23), 3), (28, .iconst (-1), 1), (29, .ireturn, 1)]
set_option maxRecDepth 100000 in
theorem kX6_findStoneIn : dk_ok cX6_findStoneIn iX6_findStoneIn = true := by decide +kernel
def iX6_findPetition : dk_T := [(0, .iconst 0, 1), (1, .istore_n 2, 1), (2, .iload_n 2, 1), (3, .aload_n 0, 1), (4, .getfield 45, 3), (7, .if_icmp .ge 29, 3), (10, .aload_n 0, 1), (11, .getfield 23, 3), (14, .iload_n 2, 1), (15, .aaload, 1), (16, .getfield 76, 3), (19, .iload_n 1, 1), (20, .if_icmp .ne 10, 3), (23, .aload_n 0, 1), (24, .getfield 23, 3), (27, .iload_n 2, 1), (28, .aaload, 1), (29, .areturn, 1), (30, .iinc 2 1, 3), (33, .goto (-31), 3), (36, .aconst_null, 1), (37, .areturn, 1)]
set_option maxRecDepth 100000 in
theorem kX6_findPetition : dk_ok cX6_findPetition iX6_findPetition = true := by decide +kernel
def iX6_findPetitionFor : dk_T := [(0, .iconst 0, 1), (1, .istore_n 2, 1), (2, .iload_n 2, 1), (3, .aload_n 0, 1), (4, .getfield 45, 3), (7, .if_icmp .ge 29, 3), (10, .aload_n 0, 1), (11, .getfield 23, 3), (14, .iload_n 2, 1), (15, .aaload, 1), (16, .getfield 79, 3), (19, .iload_n 1, 1), (20, .if_icmp .ne 10, 3), (23, .aload_n 0, 1), (24, .getfield 23, 3), (27, .iload_n 2, 1), (28, .aaload, 1), (29, .areturn, 1), (30, .iinc 2 1, 3), (33, .goto (-31), 3), (36, .aconst_null, 1), (37, .areturn, 1)]
set_option maxRecDepth 100000 in
theorem kX6_findPetitionFor : dk_ok cX6_findPetitionFor iX6_findPetitionFor = true := by decide +kernel
def iX6_findRuling : dk_T := [(0, .iload_n 1, 1), (1, .ifCond .lt 11, 3), (4, .iload_n 1, 1), (5, .aload_n 0, 1), (6, .getfield 52, 3), (9, .if_icmp .lt 5, 3), (12, .aconst_null, 1), (13, .areturn, 1), (14, .aload_n 0, 1), (15, .getfield 29, 3), (18, .iload_n 1, 1), (19, .aaload, 1), (20, .areturn, 1)]
set_option maxRecDepth 100000 in
theorem kX6_findRuling : dk_ok cX6_findRuling iX6_findRuling = true := by decide +kernel
def iX6_appendStone : dk_T := [(0, .aload_n 0, 1), (1, .getfield 58, 3), (4, .istore_n 3, 1), (5, .aload_n 0, 1), (6, .getfield 9, 3), (9, .iload_n 3, 1), (10, .iload_n 1, 1), (11, .iastore, 1), (12, .aload_n 0, 1), (13, .getfield 15, 3), (16, .iload_n 3, 1), (17, .iload_n 2, 1), (18, .iastore, 1), (19, .aload_n 0, 1), (20, .dup, 1), (21, .getfield 58, 3), (24, .iconst 1, 1), (25, .iadd, 1), (26, .putfield 58, 3), (29, .iload_n 3, 1), (30, .ireturn, 1)]
set_option maxRecDepth 100000 in
theorem kX6_appendStone : dk_ok cX6_appendStone iX6_appendStone = true := by decide +kernel
def iX6_appendOfficer : dk_T := [(0, .aload_n 0, 1), (1, .getfield 61, 3), (4, .istore_n 2, 1), (5, .aload_n 0, 1), (6, .getfield 18, 3), (9, .iload_n 2, 1), (10, .iload_n 1, 1), (11, .iastore, 1), (12, .aload_n 0, 1), (13, .dup, 1), (14, .getfield 61, 3), (17, .iconst 1, 1), (18, .iadd, 1), (19, .putfield 61, 3), (22, .iload_n 2, 1), (23, .ireturn, 1)]
set_option maxRecDepth 100000 in
theorem kX6_appendOfficer : dk_ok cX6_appendOfficer iX6_appendOfficer = true := by decide +kernel
def iX6_enqueue : dk_T := [(0, .aload_n 0, 1), (1, .getfield 23, 3), (4, .aload_n 0, 1), (5, .getfield 45, 3), (8, .aaload, 1), (9, .astore 5, 2), (11, .aload 5, 2), (13, .aload_n 0, 1), (14, .getfield 64, 3), (17, .putfield 76, 3), (20, .aload 5, 2), (22, .iload_n 1, 1), (23, .putfield 82, 3), (26, .aload 5, 2), (28, .aload_n 0, 1), (29, .getfield 18, 3), (32, .iload_n 1, 1), (33, .iaload, 1), (34, .putfield 85, 3), (37, .aload 5, 2), (39, .iload_n 2, 1), (40, .putfield 79, 3), (43, .aload 5, 2), (45, .iload_n 3, 1), (46, .putfield 88, 3), (49, .aload 5, 2), (51, .iload 4, 2), (53, .putfield 91, 3), (56, .aload 5, 2), (58, .invokevirtual 94, 3), (61, .aload_n 0, 1), (62, .aload 5, 2), (64, .invokevirtual 97, 3), (67, .aload_n 0, 1), (68, .dup, 1), (69, .getfield 45, 3), (72, .iconst 1, 1), (73, .iadd, 1), (74, .putfield 45, 3), (77, .aload_n 0, 1), (78, .dup, 1), (79, .getfield 64, 3), (82, .iconst 1, 1), (83, .iadd, 1), (84, .putfield 64, 3), (87, .aload 5, 2), (89, .getfield 76, 3), (92, .ireturn, 1)]
set_option maxRecDepth 100000 in
theorem kX6_enqueue : dk_ok cX6_enqueue iX6_enqueue = true := by decide +kernel
def iX6_moveToItsPosition : dk_T := [(0, .aload_n 0, 1), (1, .getfield 45, 3), (4, .istore_n 2, 1), (5, .iload_n 2, 1), (6, .ifCond .le 38, 3), (9, .aload_n 1, 1), (10, .aload_n 0, 1), (11, .getfield 23, 3), (14, .iload_n 2, 1), (15, .iconst 1, 1), (16, .isub, 1), (17, .aaload, 1), (18, .invokevirtual 100, 3), (21, .ifCond .eq 23, 3), (24, .aload_n 0, 1), (25, .getfield 23, 3), (28, .iload_n 2, 1), (29, .aload_n 0, 1), (30, .getfield 23, 3), (33, .iload_n 2, 1), (34, .iconst 1, 1), (35, .isub, 1), (36, .aaload, 1), (37, .aastore, 1), (38, .iinc 2 (-1), 3), (41, .goto (-36), 3), (44, .aload_n 0, 1), (45, .getfield 23, 3), (48, .iload_n 2, 1), (49, .aload_n 1, 1), (50, .aastore, 1), (51, .return_, 1)]
set_option maxRecDepth 100000 in
theorem kX6_moveToItsPosition : dk_ok cX6_moveToItsPosition iX6_moveToItsPosition = true := by decide +kernel
def iX6_dequeue : dk_T := [(0, .iconst 0, 1), (1, .istore_n 2, 1), (2, .iconst 0, 1), (3, .istore_n 3, 1), (4, .iload_n 3, 1), (5, .aload_n 0, 1), (6, .getfield 45, 3), (9, .if_icmp .ge 34, 3), (12, .aload_n 0, 1), (13, .getfield 23, 3), (16, .iload_n 3, 1), (17, .aaload, 1), (18, .aload_n 1, 1), (19, .if_acmp .eq 18, 3), (22, .aload_n 0, 1), (23, .getfield 23, 3), (26, .iload_n 2, 1), (27, .aload_n 0, 1), (28, .getfield 23, 3), (31, .iload_n 3, 1), (32, .aaload, 1), (33, .aastore, 1), (34, .iinc 2 1, 3), (37, .iinc 3 1, 3), (40, .goto (-36), 3), (43, .iload_n 2, 1), (44, .aload_n 0, 1), (45, .getfield 45, 3), (48, .if_icmp .ge 15, 3), (51, .aload_n 0, 1), (52, .getfield 23, 3), (55, .iload_n 2, 1), (56, .aload_n 1, 1), (57, .aastore, 1), (58, .aload_n 0, 1), (59, .iload_n 2, 1), (60, .putfield 45, 3), (63, .return_, 1)]
set_option maxRecDepth 100000 in
theorem kX6_dequeue : dk_ok cX6_dequeue iX6_dequeue = true := by decide +kernel
def iX6_isWon : dk_T := [(0, .aload_n 1, 1), (1, .invokevirtual 104, 3), (4, .aload_n 1, 1), (5, .invokevirtual 108, 3), (8, .isub, 1), (9, .istore_n 2, 1), (10, .iconst 0, 1), (11, .istore_n 3, 1), (12, .iload_n 3, 1), (13, .aload_n 1, 1), (14, .getfield 111, 3), (17, .if_icmp .ge 41, 3), (20, .aload_n 0, 1), (21, .aload_n 1, 1), (22, .iload_n 3, 1), (23, .invokevirtual 114, 3), (26, .invokevirtual 118, 3), (29, .astore 4, 2), (31, .iload_n 2, 1), (32, .aload 4, 2), (34, .ifnull 15, 3), (37, .aload 4, 2), (39, .getfield 122, 3), (42, .ifCond .eq 7, 3), (45, .iconst 1, 1), (46, .goto 4, 3), (49, .iconst (-1), 1), (50, .iadd, 1), (51, .istore_n 2, 1), (52, .iinc 3 1, 3), (55, .goto (-43), 3), (58, .iload_n 2, 1), (59, .ifCond .le 7, 3), (62, .iconst 1, 1), (63, .goto 4, 3), (66, .iconst 0, 1), (67, .ireturn, 1)]
set_option maxRecDepth 100000 in
theorem kX6_isWon : dk_ok cX6_isWon iX6_isWon = true := by decide +kernel
def iX6_rule : dk_T := [(0, .aload_n 0, 1), (1, .getfield 29, 3), (4, .aload_n 0, 1), (5, .getfield 52, 3), (8, .aaload, 1), (9, .astore_n 2, 1), (10, .aload_n 2, 1), (11, .aload_n 1, 1), (12, .invokevirtual 126, 3), (15, .aload_n 2, 1), (16, .aload_n 0, 1), (17, .aload_n 1, 1), (18, .invokevirtual 130, 3), (21, .putfield 134, 3), (24, .aload_n 2, 1), (25, .aload_n 0, 1), (26, .aload_n 1, 1), (27, .invokevirtual 137, 3), (30, .putfield 122, 3), (33, .aload_n 2, 1), (34, .aload_n 2, 1), (35, .getfield 122, 3), (38, .ifCond .eq 19, 3), (41, .aload_n 0, 1), (42, .aload_n 1, 1), (43, .getfield 88, 3), (46, .invokevirtual 140, 3), (49, .iconst (-1), 1), (50, .if_icmp .ne 7, 3), (53, .iconst 1, 1), (54, .goto 4, 3), (57, .iconst 0, 1), (58, .putfield 143, 3), (61, .aload_n 2, 1), (62, .getfield 143, 3), (65, .ifCond .eq 15, 3), (68, .aload_n 0, 1), (69, .aload_n 1, 1), (70, .getfield 79, 3), (73, .aload_n 1, 1), (74, .getfield 88, 3), (77, .invokevirtual 146, 3), (80, .aload_n 0, 1), (81, .aload_n 1, 1), (82, .invokevirtual 150, 3), (85, .aload_n 0, 1), (86, .dup, 1), (87, .getfield 52, 3), (90, .iconst 1, 1), (91, .iadd, 1), (92, .putfield 52, 3), (95, .aload_n 0, 1), (96, .getfield 52, 3), (99, .iconst 1, 1), (100, .isub, 1), (101, .ireturn, 1)]
set_option maxRecDepth 100000 in
theorem kX6_rule : dk_ok cX6_rule iX6_rule = true := by decide +kernel
def iX6_levelAbove : dk_T := [(0, .iconst 0, 1), (1, .istore_n 2, 1), (2, .iconst 0, 1), (3, .istore_n 3, 1), (4, .iload_n 3, 1), (5, .aload_n 1, 1), (6, .getfield 153, 3), (9, .if_icmp .ge 42, 3), (12, .aload_n 0, 1), (13, .aload_n 1, 1), (14, .iload_n 3, 1), (15, .invokevirtual 156, 3), (18, .invokevirtual 118, 3), (21, .astore 4, 2), (23, .aload 4, 2), (25, .ifnull 20, 3), (28, .aload 4, 2), (30, .getfield 134, 3), (33, .iload_n 2, 1), (34, .if_icmp .lt 11, 3), (37, .aload 4, 2), (39, .getfield 134, 3), (42, .iconst 1, 1), (43, .iadd, 1), (44, .istore_n 2, 1), (45, .iinc 3 1, 3), (48, .goto (-44), 3), (51, .iload_n 2, 1), (52, .ireturn, 1)]
set_option maxRecDepth 100000 in
theorem kX6_levelAbove : dk_ok cX6_levelAbove iX6_levelAbove = true := by decide +kernel
def iX6_moveStone : dk_T := [(0, .aload_n 0, 1), (1, .iload_n 1, 1), (2, .invokevirtual 157, 3), (5, .ifCond .eq 25, 3), (8, .aload_n 0, 1), (9, .getfield 9, 3), (12, .iload_n 1, 1), (13, .iload_n 2, 1), (14, .iastore, 1), (15, .aload_n 0, 1), (16, .dup, 1), (17, .getfield 73, 3), (20, .aload_n 0, 1), (21, .getfield 15, 3), (24, .iload_n 1, 1), (25, .iaload, 1), (26, .iadd, 1), (27, .putfield 73, 3), (30, .return_, 1)]
set_option maxRecDepth 100000 in
theorem kX6_moveStone : dk_ok cX6_moveStone iX6_moveStone = true := by decide +kernel
def iX6_restsOn : dk_T := [(0, .aload_n 0, 1), (1, .iload_n 1, 1), (2, .invokevirtual 161, 3), (5, .istore_n 3, 1), (6, .iload_n 1, 1), (7, .iconst 1, 1), (8, .isub, 1), (9, .istore 4, 2), (11, .iload 4, 2), (13, .iload_n 2, 1), (14, .if_icmp .le 28, 3), (17, .iload_n 3, 1), (18, .iload 4, 2), (20, .ishr, 1), (21, .iconst 1, 1), (22, .iand, 1), (23, .iconst 1, 1), (24, .if_icmp .ne 12, 3), (27, .iload_n 3, 1), (28, .aload_n 0, 1), (29, .iload 4, 2), (31, .invokevirtual 161, 3), (34, .ior, 1), (35, .istore_n 3, 1), (36, .iinc 4 (-1), 3), (39, .goto (-28), 3), (42, .iload_n 3, 1), (43, .iload_n 2, 1), (44, .ishr, 1), (45, .iconst 1, 1), (46, .iand, 1), (47, .iconst 1, 1), (48, .if_icmp .ne 7, 3), (51, .iconst 1, 1), (52, .goto 4, 3), (55, .iconst 0, 1), (56, .ireturn, 1)]
set_option maxRecDepth 100000 in
theorem kX6_restsOn : dk_ok cX6_restsOn iX6_restsOn = true := by decide +kernel
def iX6_countMarked : dk_T := [(0, .iconst 1, 1), (1, .iload_n 1, 1), (2, .ishl, 1), (3, .istore_n 2, 1), (4, .iload_n 1, 1), (5, .iconst 1, 1), (6, .iadd, 1), (7, .istore_n 3, 1), (8, .iload_n 3, 1), (9, .aload_n 0, 1), (10, .getfield 52, 3), (13, .if_icmp .ge 25, 3), (16, .aload_n 0, 1), (17, .iload_n 3, 1), (18, .invokevirtual 161, 3), (21, .iload_n 2, 1), (22, .iand, 1), (23, .ifCond .eq 9, 3), (26, .iload_n 2, 1), (27, .iconst 1, 1), (28, .iload_n 3, 1), (29, .ishl, 1), (30, .ior, 1), (31, .istore_n 2, 1), (32, .iinc 3 1, 3), (35, .goto (-27), 3), (38, .iload_n 2, 1), (39, .invokestatic 164, 3), (42, .iconst 1, 1), (43, .isub, 1), (44, .ireturn, 1)]
set_option maxRecDepth 100000 in
theorem kX6_countMarked : dk_ok cX6_countMarked iX6_countMarked = true := by decide +kernel
def iX6_citedSet : dk_T := [(0, .iconst 0, 1), (1, .istore_n 2, 1), (2, .aload_n 0, 1), (3, .iload_n 1, 1), (4, .invokevirtual 118, 3), (7, .astore_n 3, 1), (8, .aload_n 3, 1), (9, .ifnull 32, 3), (12, .iconst 0, 1), (13, .istore 4, 2), (15, .iload 4, 2), (17, .aload_n 3, 1), (18, .getfield 169, 3), (21, .if_icmp .ge 20, 3), (24, .iload_n 2, 1), (25, .iconst 1, 1), (26, .aload_n 3, 1), (27, .iload 4, 2), (29, .invokevirtual 170, 3), (32, .ishl, 1), (33, .ior, 1), (34, .istore_n 2, 1), (35, .iinc 4 1, 3), (38, .goto (-23), 3), (41, .iload_n 2, 1), (42, .ireturn, 1)]
set_option maxRecDepth 100000 in
theorem kX6_citedSet : dk_ok cX6_citedSet iX6_citedSet = true := by decide +kernel
def iX7_init : dk_T := [(0, .aload_n 0, 1), (1, .invokespecial 3, 3), (4, .aload_n 0, 1), (5, .bipush 10, 2), (7, .anewarray 9, 3), (10, .putfield 11, 3), (13, .iconst 0, 1), (14, .istore_n 1, 1), (15, .iload_n 1, 1), (16, .bipush 10, 2), (18, .if_icmp .ge 22, 3), (21, .aload_n 0, 1), (22, .getfield 11, 3), (25, .iload_n 1, 1), (26, .new 9, 3), (29, .dup, 1), (30, .invokespecial 17, 3), (33, .aastore, 1), (34, .iinc 1 1, 3), (37, .goto (-22), 3), (40, .return_, 1)]
set_option maxRecDepth 100000 in
theorem kX7_init : dk_ok cX7_init iX7_init = true := by decide +kernel
def iX7_read : dk_T := [(0, .aload_n 0, 1), (1, .iconst 0, 1), (2, .putfield 18, 3), (5, .aload_n 0, 1), (6, .iconst 0, 1), (7, .putfield 22, 3), (10, .aload_n 0, 1), (11, .getfield 22, 3), (14, .bipush 10, 2), (16, .if_icmp .ge 57, 3), (19, .aload_n 0, 1), (20, .aload_n 1, 1), (21, .aload_n 0, 1), (22, .getfield 11, 3), (25, .aload_n 0, 1), (26, .getfield 22, 3), (29, .aaload, 1), (30, .invokevirtual 25, 3), (33, .ifCond .ne 5, 3), (36, .iconst 0, 1), (37, .ireturn, 1), (38, .aload_n 0, 1), (39, .dup, 1), (40, .getfield 22, 3), (43, .iconst 1, 1), (44, .iadd, 1), (45, .putfield 22, 3), (48, .aload_n 0, 1), (49, .getfield 18, 3), (52, .aload_n 1, 1), (53, .getfield 29, 3), (56, .if_icmp .ne 5, 3), (59, .iconst 1, 1), (60, .ireturn, 1), (61, .aload_n 0, 1), (62, .aload_n 1, 1), (63, .bipush 59, 2), (65, .invokevirtual 34, 3), (68, .ifCond .ne (-58), 3), (71, .iconst 0, 1), (72, .ireturn, 1), (73, .iconst 0, 1), (74, .ireturn, 1)]
set_option maxRecDepth 100000 in
theorem kX7_read : dk_ok cX7_read iX7_read = true := by decide +kernel
def iX7_readCommand : dk_T := [(0, .aload_n 1, 1), (1, .aload_n 0, 1), (2, .getfield 18, 3), (5, .invokevirtual 38, 3), (8, .istore_n 3, 1), (9, .iload_n 3, 1), (10, .invokestatic 42, 3), (13, .astore 4, 2), (15, .aload 4, 2), (17, .invokevirtual 46, 3), (20, .ifCond .eq 5, 3), (23, .iconst 0, 1), (24, .ireturn, 1), (25, .aload_n 2, 1), (26, .iload_n 3, 1), (27, .invokevirtual 52, 3), (30, .iconst 0, 1), (31, .istore 5, 2), (33, .iload 5, 2), (35, .aload 4, 2), (37, .invokevirtual 56, 3), (40, .if_icmp .ge 27, 3), (43, .aload_n 0, 1), (44, .aload_n 1, 1), (45, .aload_n 2, 1), (46, .aload 4, 2), (48, .iload 5, 2), (50, .invokevirtual 59, 3), (53, .invokevirtual 62, 3), (56, .ifCond .ne 5, 3), (59, .iconst 0, 1), (60, .ireturn, 1), (61, .iinc 5 1, 3), (64, .goto (-31), 3), (67, .iconst 1, 1), (68, .ireturn, 1)]
set_option maxRecDepth 100000 in
theorem kX7_readCommand : dk_ok cX7_readCommand iX7_readCommand = true := by decide +kernel
def iX7_readPart : dk_T := [(0, .iload_n 3, 1), (1, .bipush 68, 2), (3, .if_icmp .eq 9, 3), (6, .iload_n 3, 1), (7, .bipush 78, 2), (9, .if_icmp .ne 21, 3), (12, .aload_n 0, 1), (13, .aload_n 1, 1), (14, .aload_n 2, 1), (15, .iload_n 3, 1), (16, .bipush 78, 2), (18, .if_icmp .ne 7, 3), (21, .iconst 1, 1), (22, .goto 4, 3), (25, .iconst 0, 1), (26, .invokevirtual 66, 3), (29, .ireturn, 1), (30, .aload_n 0, 1), (31, .aload_n 1, 1), (32, .iload_n 3, 1), (33, .invokevirtual 34, 3), (36, .ireturn, 1)]
set_option maxRecDepth 100000 in
theorem kX7_readPart : dk_ok cX7_readPart iX7_readPart = true := by decide +kernel
def iX7_patternOf : dk_T := [(0, .iload_n 0, 1), (1, .tableswitch 137 99 121 #[125, 134, 137, 116, 137, 137, 137, 137, 137, 137, 137, 122, 110, 137, 113, 137, 107, 137, 137, 128, 131, 137, 119], 107), (108, .ldc 70, 2), (110, .areturn, 1), (111, .ldc 72, 2), (113, .areturn, 1), (114, .ldc 74, 2), (116, .areturn, 1), (117, .ldc 76, 2), (119, .areturn, 1), (120, .ldc 78, 2), (122, .areturn, 1), (123, .ldc 80, 2), (125, .areturn, 1), (126, .ldc 82, 2), (128, .areturn, 1), (129, .ldc 84, 2), (131, .areturn, 1), (132, .ldc 86, 2), (134, .areturn, 1), (135, .ldc 88, 2), (137, .areturn, 1), (138, .ldc 90, 2), (140, .areturn, 1)]
set_option maxRecDepth 100000 in
theorem kX7_patternOf : dk_ok cX7_patternOf iX7_patternOf = true := by decide +kernel
def iX7_readSign : dk_T := [(0, .aload_n 1, 1), (1, .aload_n 0, 1), (2, .getfield 18, 3), (5, .invokevirtual 38, 3), (8, .iload_n 2, 1), (9, .if_icmp .eq 5, 3), (12, .iconst 0, 1), (13, .ireturn, 1), (14, .aload_n 0, 1), (15, .dup, 1), (16, .getfield 18, 3), (19, .iconst 1, 1), (20, .iadd, 1), (21, .putfield 18, 3), (24, .iconst 1, 1), (25, .ireturn, 1)]
set_option maxRecDepth 100000 in
theorem kX7_readSign : dk_ok cX7_readSign iX7_readSign = true := by decide +kernel
def iX7_readValue : dk_T := [(0, .aload_n 1, 1), (1, .aload_n 0, 1), (2, .getfield 18, 3), (5, .invokevirtual 38, 3), (8, .invokestatic 92, 3), (11, .ifCond .ne 5, 3), (14, .iconst 0, 1), (15, .ireturn, 1), (16, .aload_n 1, 1), (17, .aload_n 0, 1), (18, .getfield 18, 3), (21, .invokevirtual 38, 3), (24, .bipush 48, 2), (26, .isub, 1), (27, .istore 4, 2), (29, .aload_n 0, 1), (30, .dup, 1), (31, .getfield 18, 3), (34, .iconst 1, 1), (35, .iadd, 1), (36, .putfield 18, 3), (39, .iload_n 3, 1), (40, .ifCond .eq 46, 3), (43, .aload_n 1, 1), (44, .aload_n 0, 1), (45, .getfield 18, 3), (48, .invokevirtual 38, 3), (51, .invokestatic 92, 3), (54, .ifCond .eq 32, 3), (57, .iload 4, 2), (59, .bipush 10, 2), (61, .imul, 1), (62, .aload_n 1, 1), (63, .aload_n 0, 1), (64, .getfield 18, 3), (67, .invokevirtual 38, 3), (70, .iadd, 1), (71, .bipush 48, 2), (73, .isub, 1), (74, .istore 4, 2), (76, .aload_n 0, 1), (77, .dup, 1), (78, .getfield 18, 3), (81, .iconst 1, 1), (82, .iadd, 1), (83, .putfield 18, 3), (86, .aload_n 2, 1), (87, .iload 4, 2), (89, .invokevirtual 96, 3), (92, .iconst 1, 1), (93, .ireturn, 1)]
set_option maxRecDepth 100000 in
theorem kX7_readValue : dk_ok cX7_readValue iX7_readValue = true := by decide +kernel
def iX7_isDigit : dk_T := [(0, .iload_n 0, 1), (1, .bipush 48, 2), (3, .if_icmp .lt 13, 3), (6, .iload_n 0, 1), (7, .bipush 57, 2), (9, .if_icmp .gt 7, 3), (12, .iconst 1, 1), (13, .goto 4, 3), (16, .iconst 0, 1), (17, .ireturn, 1)]
set_option maxRecDepth 100000 in
theorem kX7_isDigit : dk_ok cX7_isDigit iX7_isDigit = true := by decide +kernel
def iX8_init : dk_T := [(0, .aload_n 0, 1), (1, .invokespecial 3, 3), (4, .aload_n 0, 1), (5, .new 9, 3), (8, .dup, 1), (9, .invokespecial 11, 3), (12, .putfield 12, 3), (15, .aload_n 0, 1), (16, .new 9, 3), (19, .dup, 1), (20, .invokespecial 11, 3), (23, .putfield 16, 3), (26, .aload_n 0, 1), (27, .new 19, 3), (30, .dup, 1), (31, .invokespecial 21, 3), (34, .putfield 22, 3), (37, .aload_n 0, 1), (38, .new 26, 3), (41, .dup, 1), (42, .invokespecial 28, 3), (45, .putfield 29, 3), (48, .aload_n 0, 1), (49, .new 26, 3), (52, .dup, 1), (53, .invokespecial 28, 3), (56, .putfield 33, 3), (59, .aload_n 0, 1), (60, .new 36, 3), (63, .dup, 1), (64, .invokespecial 38, 3), (67, .putfield 39, 3), (70, .aload_n 0, 1), (71, .bipush 16, 2), (73, .newarray .int, 2), (75, .putfield 43, 3), (78, .aload_n 0, 1), (79, .iconst (-1), 1), (80, .putfield 47, 3), (83, .return_, 1)]
set_option maxRecDepth 100000 in
theorem kX8_init : dk_ok cX8_init iX8_init = true := by decide +kernel
def iX8_addStone : dk_T := [(0, .aload_n 0, 1), (1, .getfield 22, 3), (4, .aload_n 0, 1), (5, .getfield 12, 3), (8, .invokevirtual 51, 3), (11, .aload_n 0, 1), (12, .aload_n 0, 1), (13, .iload_n 1, 1), (14, .iload_n 2, 1), (15, .invokevirtual 55, 3), (18, .invokevirtual 59, 3), (21, .ireturn, 1)]
set_option maxRecDepth 100000 in
theorem kX8_addStone : dk_ok cX8_addStone iX8_addStone = true := by decide +kernel
def iX8_addOfficer : dk_T := [(0, .aload_n 0, 1), (1, .getfield 22, 3), (4, .aload_n 0, 1), (5, .getfield 12, 3), (8, .invokevirtual 51, 3), (11, .aload_n 0, 1), (12, .aload_n 0, 1), (13, .iload_n 1, 1), (14, .invokevirtual 63, 3), (17, .invokevirtual 59, 3), (20, .ireturn, 1)]
set_option maxRecDepth 100000 in
theorem kX8_addOfficer : dk_ok cX8_addOfficer iX8_addOfficer = true := by decide +kernel
def iX8_stoneCount : dk_T := [(0, .aload_n 0, 1), (1, .getfield 12, 3), (4, .getfield 66, 3), (7, .ireturn, 1)]
set_option maxRecDepth 100000 in
theorem kX8_stoneCount : dk_ok cX8_stoneCount iX8_stoneCount = true := by decide +kernel
def iX8_cellOf : dk_T := [(0, .aload_n 0, 1), (1, .getfield 12, 3), (4, .iload_n 1, 1), (5, .invokevirtual 69, 3), (8, .ifCond .ne 13, 3), (11, .new 73, 3), (14, .dup, 1), (15, .ldc 75, 2), (17, .invokespecial 77, 3), (20, .athrow, 1), (21, .aload_n 0, 1), (22, .getfield 12, 3), (25, .getfield 80, 3), (28, .iload_n 1, 1), (29, .iaload, 1), (30, .ireturn, 1)]
set_option maxRecDepth 100000 in
theorem kX8_cellOf : dk_ok cX8_cellOf iX8_cellOf = true := by decide +kernel
def iX8_weightOf : dk_T := [(0, .aload_n 0, 1), (1, .getfield 12, 3), (4, .iload_n 1, 1), (5, .invokevirtual 69, 3), (8, .ifCond .ne 13, 3), (11, .new 73, 3), (14, .dup, 1), (15, .ldc 75, 2), (17, .invokespecial 77, 3), (20, .athrow, 1), (21, .aload_n 0, 1), (22, .getfield 12, 3), (25, .getfield 83, 3), (28, .iload_n 1, 1), (29, .iaload, 1), (30, .ireturn, 1)]
set_option maxRecDepth 100000 in
theorem kX8_weightOf : dk_ok cX8_weightOf iX8_weightOf = true := by decide +kernel
def iX8_stoneIn : dk_T := [(0, .iload_n 1, 1), (1, .invokestatic 86, 3), (4, .ifCond .ne 13, 3), (7, .new 73, 3), (10, .dup, 1), (11, .ldc 89, 2), (13, .invokespecial 77, 3), (16, .athrow, 1), (17, .aload_n 0, 1), (18, .getfield 12, 3), (21, .iload_n 1, 1), (22, .invokevirtual 91, 3), (25, .istore_n 2, 1), (26, .iload_n 2, 1), (27, .iconst (-1), 1), (28, .if_icmp .ne 13, 3), (31, .new 94, 3), (34, .dup, 1), (35, .ldc 96, 2), (37, .invokespecial 98, 3), (40, .athrow, 1), (41, .iload_n 2, 1), (42, .ireturn, 1)]
set_option maxRecDepth 100000 in
theorem kX8_stoneIn : dk_ok cX8_stoneIn iX8_stoneIn = true := by decide +kernel
def iX8_officerCount : dk_T := [(0, .aload_n 0, 1), (1, .getfield 12, 3), (4, .getfield 99, 3), (7, .ireturn, 1)]
set_option maxRecDepth 100000 in
theorem kX8_officerCount : dk_ok cX8_officerCount iX8_officerCount = true := by decide +kernel
def iX8_rankOf : dk_T := [(0, .aload_n 0, 1), (1, .getfield 12, 3), (4, .iload_n 1, 1), (5, .invokevirtual 102, 3), (8, .ifCond .ne 13, 3), (11, .new 73, 3), (14, .dup, 1), (15, .ldc 105, 2), (17, .invokespecial 77, 3), (20, .athrow, 1), (21, .aload_n 0, 1), (22, .getfield 12, 3), (25, .getfield 107, 3), (28, .iload_n 1, 1), (29, .iaload, 1), (30, .ireturn, 1)]
set_option maxRecDepth 100000 in
theorem kX8_rankOf : dk_ok cX8_rankOf iX8_rankOf = true := by decide +kernel
def iX8_petitionsOf : dk_T := [(0, .aload_n 0, 1), (1, .getfield 12, 3), (4, .iload_n 1, 1), (5, .invokevirtual 102, 3), (8, .ifCond .ne 13, 3), (11, .new 73, 3), (14, .dup, 1), (15, .ldc 105, 2), (17, .invokespecial 77, 3), (20, .athrow, 1), (21, .iconst 0, 1), (22, .istore_n 2, 1), (23, .iconst 0, 1), (24, .istore_n 3, 1), (25, .iload_n 3, 1), (26, .aload_n 0, 1), (27, .getfield 12, 3), (30, .getfield 110, 3), (33, .if_icmp .ge 28, 3), (36, .aload_n 0, 1), (37, .getfield 12, 3), (40, .getfield 113, 3), (43, .iload_n 3, 1), (44, .aaload, 1), (45, .getfield 117, 3), (48, .iload_n 1, 1), (49, .if_icmp .ne 6, 3), (52, .iinc 2 1, 3), (55, .iinc 3 1, 3), (58, .goto (-33), 3), (61, .iload_n 2, 1), (62, .ireturn, 1)]
set_option maxRecDepth 100000 in
theorem kX8_petitionsOf : dk_ok cX8_petitionsOf iX8_petitionsOf = true := by decide +kernel
def iX8_file : dk_T := [(0, .aload_n 0, 1), (1, .getfield 22, 3), (4, .aload_n 0, 1), (5, .getfield 12, 3), (8, .invokevirtual 51, 3), (11, .aload_n 0, 1), (12, .aload_n 0, 1), (13, .iload_n 1, 1), (14, .iload_n 2, 1), (15, .iload_n 3, 1), (16, .iload 4, 2), (18, .invokevirtual 122, 3), (21, .invokevirtual 59, 3), (24, .ireturn, 1)]
set_option maxRecDepth 100000 in
theorem kX8_file : dk_ok cX8_file iX8_file = true := by decide +kernel
def iX8_vote : dk_T := [(0, .aload_n 0, 1), (1, .getfield 22, 3), (4, .aload_n 0, 1), (5, .getfield 12, 3), (8, .invokevirtual 51, 3), (11, .aload_n 0, 1), (12, .aload_n 0, 1), (13, .iload_n 1, 1), (14, .iload_n 2, 1), (15, .iload_n 3, 1), (16, .invokevirtual 126, 3), (19, .invokevirtual 59, 3), (22, .ireturn, 1)]
set_option maxRecDepth 100000 in
theorem kX8_vote : dk_ok cX8_vote iX8_vote = true := by decide +kernel
def iX8_cite : dk_T := [(0, .aload_n 0, 1), (1, .getfield 22, 3), (4, .aload_n 0, 1), (5, .getfield 12, 3), (8, .invokevirtual 51, 3), (11, .aload_n 0, 1), (12, .aload_n 0, 1), (13, .iload_n 1, 1), (14, .iload_n 2, 1), (15, .invokevirtual 130, 3), (18, .invokevirtual 59, 3), (21, .ireturn, 1)]
set_option maxRecDepth 100000 in
theorem kX8_cite : dk_ok cX8_cite iX8_cite = true := by decide +kernel
def iX8_veto : dk_T := [(0, .aload_n 0, 1), (1, .getfield 22, 3), (4, .aload_n 0, 1), (5, .getfield 12, 3), (8, .invokevirtual 51, 3), (11, .aload_n 0, 1), (12, .aload_n 0, 1), (13, .iload_n 1, 1), (14, .iload_n 2, 1), (15, .invokevirtual 133, 3), (18, .invokevirtual 59, 3), (21, .ireturn, 1)]
set_option maxRecDepth 100000 in
theorem kX8_veto : dk_ok cX8_veto iX8_veto = true := by decide +kernel
def iX8_withdraw : dk_T := [(0, .aload_n 0, 1), (1, .getfield 22, 3), (4, .aload_n 0, 1), (5, .getfield 12, 3), (8, .invokevirtual 51, 3), (11, .aload_n 0, 1), (12, .aload_n 0, 1), (13, .iload_n 1, 1), (14, .invokevirtual 136, 3), (17, .invokevirtual 59, 3), (20, .ireturn, 1)]
set_option maxRecDepth 100000 in
theorem kX8_withdraw : dk_ok cX8_withdraw iX8_withdraw = true := by decide +kernel
def iX8_pendingCount : dk_T := [(0, .aload_n 0, 1), (1, .getfield 12, 3), (4, .getfield 110, 3), (7, .ireturn, 1)]
set_option maxRecDepth 100000 in
theorem kX8_pendingCount : dk_ok cX8_pendingCount iX8_pendingCount = true := by decide +kernel
def iX8_petitionAt : dk_T := [(0, .iload_n 1, 1), (1, .ifCond .lt 14, 3), (4, .iload_n 1, 1), (5, .aload_n 0, 1), (6, .getfield 12, 3), (9, .getfield 110, 3), (12, .if_icmp .lt 13, 3), (15, .new 94, 3), (18, .dup, 1), (19, .ldc 139, 2), (21, .invokespecial 98, 3), (24, .athrow, 1), (25, .aload_n 0, 1), (26, .getfield 12, 3), (29, .getfield 113, 3), (32, .iload_n 1, 1), (33, .aaload, 1), (34, .getfield 141, 3), (37, .ireturn, 1)]
set_option maxRecDepth 100000 in
theorem kX8_petitionAt : dk_ok cX8_petitionAt iX8_petitionAt = true := by decide +kernel
def iX8_positionOf : dk_T := [(0, .aload_n 0, 1), (1, .iload_n 1, 1), (2, .invokevirtual 144, 3), (5, .astore_n 2, 1), (6, .iconst 0, 1), (7, .istore_n 3, 1), (8, .iconst 0, 1), (9, .istore 4, 2), (11, .iload 4, 2), (13, .aload_n 0, 1), (14, .getfield 12, 3), (17, .getfield 110, 3), (20, .if_icmp .ge 29, 3), (23, .aload_n 0, 1), (24, .getfield 12, 3), (27, .getfield 113, 3), (30, .iload 4, 2), (32, .aaload, 1), (33, .aload_n 2, 1), (34, .invokevirtual 148, 3), (37, .ifCond .eq 6, 3), (40, .iinc 3 1, 3), (43, .iinc 4 1, 3), (46, .goto (-35), 3), (49, .iload_n 3, 1), (50, .ireturn, 1)]
set_option maxRecDepth 100000 in
theorem kX8_positionOf : dk_ok cX8_positionOf iX8_positionOf = true := by decide +kernel
def iX8_stoneOf : dk_T := [(0, .aload_n 0, 1), (1, .iload_n 1, 1), (2, .invokevirtual 144, 3), (5, .getfield 152, 3), (8, .ireturn, 1)]
set_option maxRecDepth 100000 in
theorem kX8_stoneOf : dk_ok cX8_stoneOf iX8_stoneOf = true := by decide +kernel
def iX8_targetOf : dk_T := [(0, .aload_n 0, 1), (1, .iload_n 1, 1), (2, .invokevirtual 144, 3), (5, .getfield 155, 3), (8, .ireturn, 1)]
set_option maxRecDepth 100000 in
theorem kX8_targetOf : dk_ok cX8_targetOf iX8_targetOf = true := by decide +kernel
def iX8_votesFor : dk_T := [(0, .aload_n 0, 1), (1, .iload_n 1, 1), (2, .invokevirtual 144, 3), (5, .invokevirtual 158, 3), (8, .ireturn, 1)]
set_option maxRecDepth 100000 in
theorem kX8_votesFor : dk_ok cX8_votesFor iX8_votesFor = true := by decide +kernel
def iX8_votesAgainst : dk_T := [(0, .aload_n 0, 1), (1, .iload_n 1, 1), (2, .invokevirtual 144, 3), (5, .invokevirtual 162, 3), (8, .ireturn, 1)]
set_option maxRecDepth 100000 in
theorem kX8_votesAgainst : dk_ok cX8_votesAgainst iX8_votesAgainst = true := by decide +kernel
def iX8_wouldBeGranted : dk_T := [(0, .aload_n 0, 1), (1, .getfield 12, 3), (4, .aload_n 0, 1), (5, .iload_n 1, 1), (6, .invokevirtual 144, 3), (9, .invokevirtual 165, 3), (12, .ireturn, 1)]
set_option maxRecDepth 100000 in
theorem kX8_wouldBeGranted : dk_ok cX8_wouldBeGranted iX8_wouldBeGranted = true := by decide +kernel
def iX8_setQuorum : dk_T := [(0, .aload_n 0, 1), (1, .getfield 22, 3), (4, .aload_n 0, 1), (5, .getfield 12, 3), (8, .invokevirtual 51, 3), (11, .aload_n 0, 1), (12, .aload_n 0, 1), (13, .iload_n 1, 1), (14, .invokevirtual 168, 3), (17, .invokevirtual 59, 3), (20, .ireturn, 1)]
set_option maxRecDepth 100000 in
theorem kX8_setQuorum : dk_ok cX8_setQuorum iX8_setQuorum = true := by decide +kernel
def iX8_decide : dk_T := [(0, .aload_n 0, 1), (1, .getfield 22, 3), (4, .aload_n 0, 1), (5, .getfield 12, 3), (8, .invokevirtual 51, 3), (11, .aload_n 0, 1), (12, .aload_n 0, 1), (13, .invokevirtual 171, 3), (16, .invokevirtual 59, 3), (19, .ireturn, 1)]
set_option maxRecDepth 100000 in
theorem kX8_decide : dk_ok cX8_decide iX8_decide = true := by decide +kernel
def iX8_quorum : dk_T := [(0, .aload_n 0, 1), (1, .getfield 12, 3), (4, .getfield 174, 3), (7, .ireturn, 1)]
set_option maxRecDepth 100000 in
theorem kX8_quorum : dk_ok cX8_quorum iX8_quorum = true := by decide +kernel
def iX8_rulingCount : dk_T := [(0, .aload_n 0, 1), (1, .getfield 12, 3), (4, .getfield 177, 3), (7, .ireturn, 1)]
set_option maxRecDepth 100000 in
theorem kX8_rulingCount : dk_ok cX8_rulingCount iX8_rulingCount = true := by decide +kernel
def iX8_isGranted : dk_T := [(0, .aload_n 0, 1), (1, .iload_n 1, 1), (2, .invokevirtual 180, 3), (5, .getfield 184, 3), (8, .ireturn, 1)]
set_option maxRecDepth 100000 in
theorem kX8_isGranted : dk_ok cX8_isGranted iX8_isGranted = true := by decide +kernel
def iX8_isCarriedOut : dk_T := [(0, .aload_n 0, 1), (1, .iload_n 1, 1), (2, .invokevirtual 180, 3), (5, .getfield 190, 3), (8, .ireturn, 1)]
set_option maxRecDepth 100000 in
theorem kX8_isCarriedOut : dk_ok cX8_isCarriedOut iX8_isCarriedOut = true := by decide +kernel
def iX8_citationCount : dk_T := [(0, .aload_n 0, 1), (1, .iload_n 1, 1), (2, .invokevirtual 180, 3), (5, .getfield 193, 3), (8, .ireturn, 1)]
set_option maxRecDepth 100000 in
theorem kX8_citationCount : dk_ok cX8_citationCount iX8_citationCount = true := by decide +kernel
def iX8_citation : dk_T := [(0, .aload_n 0, 1), (1, .iload_n 1, 1), (2, .invokevirtual 180, 3), (5, .astore_n 3, 1), (6, .iload_n 2, 1), (7, .ifCond .lt 11, 3), (10, .iload_n 2, 1), (11, .aload_n 3, 1), (12, .getfield 193, 3), (15, .if_icmp .lt 13, 3), (18, .new 94, 3), (21, .dup, 1), (22, .ldc 139, 2), (24, .invokespecial 98, 3), (27, .athrow, 1), (28, .aload_n 3, 1), (29, .iload_n 2, 1), (30, .invokevirtual 196, 3), (33, .ireturn, 1)]
set_option maxRecDepth 100000 in
theorem kX8_citation : dk_ok cX8_citation iX8_citation = true := by decide +kernel
def iX8_citedBy : dk_T := [(0, .aload_n 0, 1), (1, .iload_n 1, 1), (2, .invokevirtual 180, 3), (5, .pop, 1), (6, .iconst 0, 1), (7, .istore_n 2, 1), (8, .iload_n 1, 1), (9, .iconst 1, 1), (10, .iadd, 1), (11, .istore_n 3, 1), (12, .iload_n 3, 1), (13, .aload_n 0, 1), (14, .getfield 12, 3), (17, .getfield 177, 3), (20, .if_icmp .ge 28, 3), (23, .aload_n 0, 1), (24, .getfield 12, 3), (27, .getfield 199, 3), (30, .iload_n 3, 1), (31, .aaload, 1), (32, .iload_n 1, 1), (33, .invokevirtual 203, 3), (36, .ifCond .eq 6, 3), (39, .iinc 2 1, 3), (42, .iinc 3 1, 3), (45, .goto (-33), 3), (48, .iload_n 2, 1), (49, .ireturn, 1)]
set_option maxRecDepth 100000 in
theorem kX8_citedBy : dk_ok cX8_citedBy iX8_citedBy = true := by decide +kernel
def iX8_depth : dk_T := [(0, .aload_n 0, 1), (1, .iload_n 1, 1), (2, .invokevirtual 180, 3), (5, .getfield 206, 3), (8, .ireturn, 1)]
set_option maxRecDepth 100000 in
theorem kX8_depth : dk_ok cX8_depth iX8_depth = true := by decide +kernel
def iX8_isBasedOn : dk_T := [(0, .aload_n 0, 1), (1, .iload_n 1, 1), (2, .invokevirtual 180, 3), (5, .pop, 1), (6, .aload_n 0, 1), (7, .iload_n 2, 1), (8, .invokevirtual 180, 3), (11, .pop, 1), (12, .aload_n 0, 1), (13, .getfield 12, 3), (16, .iload_n 1, 1), (17, .iload_n 2, 1), (18, .invokevirtual 209, 3), (21, .ireturn, 1)]
set_option maxRecDepth 100000 in
theorem kX8_isBasedOn : dk_ok cX8_isBasedOn iX8_isBasedOn = true := by decide +kernel
def iX8_influence : dk_T := [(0, .aload_n 0, 1), (1, .iload_n 1, 1), (2, .invokevirtual 180, 3), (5, .pop, 1), (6, .iconst 0, 1), (7, .istore_n 2, 1), (8, .iconst 0, 1), (9, .istore_n 3, 1), (10, .iload_n 3, 1), (11, .aload_n 0, 1), (12, .getfield 12, 3), (15, .getfield 177, 3), (18, .if_icmp .ge 24, 3), (21, .aload_n 0, 1), (22, .getfield 12, 3), (25, .iload_n 3, 1), (26, .iload_n 1, 1), (27, .invokevirtual 209, 3), (30, .ifCond .eq 6, 3), (33, .iinc 2 1, 3), (36, .iinc 3 1, 3), (39, .goto (-29), 3), (42, .iload_n 2, 1), (43, .ireturn, 1)]
set_option maxRecDepth 100000 in
theorem kX8_influence : dk_ok cX8_influence iX8_influence = true := by decide +kernel
def iX8_influenceByMarking : dk_T := [(0, .aload_n 0, 1), (1, .iload_n 1, 1), (2, .invokevirtual 180, 3), (5, .pop, 1), (6, .aload_n 0, 1), (7, .getfield 12, 3), (10, .iload_n 1, 1), (11, .invokevirtual 213, 3), (14, .ireturn, 1)]
set_option maxRecDepth 100000 in
theorem kX8_influenceByMarking : dk_ok cX8_influenceByMarking iX8_influenceByMarking = true := by decide +kernel
def iX8_rulingByInfluence : dk_T := [(0, .iload_n 1, 1), (1, .ifCond .lt 14, 3), (4, .iload_n 1, 1), (5, .aload_n 0, 1), (6, .getfield 12, 3), (9, .getfield 177, 3), (12, .if_icmp .lt 13, 3), (15, .new 94, 3), (18, .dup, 1), (19, .ldc 216, 2), (21, .invokespecial 98, 3), (24, .athrow, 1), (25, .iconst 0, 1), (26, .istore_n 2, 1), (27, .iload_n 2, 1), (28, .aload_n 0, 1), (29, .getfield 12, 3), (32, .getfield 177, 3), (35, .if_icmp .ge 23, 3), (38, .aload_n 0, 1), (39, .getfield 43, 3), (42, .iload_n 2, 1), (43, .aload_n 0, 1), (44, .getfield 12, 3), (47, .iload_n 2, 1), (48, .invokevirtual 213, 3), (51, .iastore, 1), (52, .iinc 2 1, 3), (55, .goto (-28), 3), (58, .iconst (-1), 1), (59, .istore_n 2, 1), (60, .iconst 0, 1), (61, .istore_n 3, 1), (62, .iload_n 3, 1), (63, .aload_n 0, 1), (64, .getfield 12, 3), (67, .getfield 177, 3), (70, .if_icmp .ge 20, 3), (73, .aload_n 0, 1), (74, .iload_n 3, 1), (75, .invokevirtual 218, 3), (78, .iload_n 1, 1), (79, .if_icmp .ne 5, 3), (82, .iload_n 3, 1), (83, .istore_n 2, 1), (84, .iinc 3 1, 3), (87, .goto (-25), 3), (90, .iload_n 2, 1), (91, .ireturn, 1)]
set_option maxRecDepth 100000 in
theorem kX8_rulingByInfluence : dk_ok cX8_rulingByInfluence iX8_rulingByInfluence = true := by decide +kernel
def iX8_filedCount : dk_T := [(0, .aload_n 0, 1), (1, .getfield 12, 3), (4, .getfield 221, 3), (7, .ireturn, 1)]
set_option maxRecDepth 100000 in
theorem kX8_filedCount : dk_ok cX8_filedCount iX8_filedCount = true := by decide +kernel
def iX8_vetoes : dk_T := [(0, .aload_n 0, 1), (1, .getfield 12, 3), (4, .getfield 224, 3), (7, .ireturn, 1)]
set_option maxRecDepth 100000 in
theorem kX8_vetoes : dk_ok cX8_vetoes iX8_vetoes = true := by decide +kernel
def iX8_withdrawals : dk_T := [(0, .aload_n 0, 1), (1, .getfield 12, 3), (4, .getfield 227, 3), (7, .ireturn, 1)]
set_option maxRecDepth 100000 in
theorem kX8_withdrawals : dk_ok cX8_withdrawals iX8_withdrawals = true := by decide +kernel
def iX8_movedWeight : dk_T := [(0, .aload_n 0, 1), (1, .getfield 12, 3), (4, .getfield 230, 3), (7, .ireturn, 1)]
set_option maxRecDepth 100000 in
theorem kX8_movedWeight : dk_ok cX8_movedWeight iX8_movedWeight = true := by decide +kernel
def iX8_meanVotes : dk_T := [(0, .aload_n 0, 1), (1, .getfield 12, 3), (4, .getfield 110, 3), (7, .ifCond .ne 13, 3), (10, .new 233, 3), (13, .dup, 1), (14, .ldc 235, 2), (16, .invokespecial 237, 3), (19, .athrow, 1), (20, .iconst 0, 1), (21, .istore_n 1, 1), (22, .iconst 0, 1), (23, .istore_n 2, 1), (24, .iload_n 2, 1), (25, .aload_n 0, 1), (26, .getfield 12, 3), (29, .getfield 110, 3), (32, .if_icmp .ge 24, 3), (35, .iload_n 1, 1), (36, .aload_n 0, 1), (37, .getfield 12, 3), (40, .getfield 113, 3), (43, .iload_n 2, 1), (44, .aaload, 1), (45, .invokevirtual 238, 3), (48, .iadd, 1), (49, .istore_n 1, 1), (50, .iinc 2 1, 3), (53, .goto (-29), 3), (56, .iload_n 1, 1), (57, .i2d, 1), (58, .aload_n 0, 1), (59, .getfield 12, 3), (62, .getfield 110, 3), (65, .i2d, 1), (66, .ddiv, 1), (67, .dreturn, 1)]
set_option maxRecDepth 100000 in
theorem kX8_meanVotes : dk_ok cX8_meanVotes iX8_meanVotes = true := by decide +kernel
def iX8_grantedShare : dk_T := [(0, .aload_n 0, 1), (1, .getfield 12, 3), (4, .getfield 177, 3), (7, .ifCond .ne 13, 3), (10, .new 233, 3), (13, .dup, 1), (14, .ldc 241, 2), (16, .invokespecial 237, 3), (19, .athrow, 1), (20, .iconst 0, 1), (21, .istore_n 1, 1), (22, .iconst 0, 1), (23, .istore_n 2, 1), (24, .iload_n 2, 1), (25, .aload_n 0, 1), (26, .getfield 12, 3), (29, .getfield 177, 3), (32, .if_icmp .ge 27, 3), (35, .aload_n 0, 1), (36, .getfield 12, 3), (39, .getfield 199, 3), (42, .iload_n 2, 1), (43, .aaload, 1), (44, .getfield 184, 3), (47, .ifCond .eq 6, 3), (50, .iinc 1 1, 3), (53, .iinc 2 1, 3), (56, .goto (-32), 3), (59, .iload_n 1, 1), (60, .i2f, 1), (61, .aload_n 0, 1), (62, .getfield 12, 3), (65, .getfield 177, 3), (68, .i2f, 1), (69, .fdiv, 1), (70, .freturn, 1)]
set_option maxRecDepth 100000 in
theorem kX8_grantedShare : dk_ok cX8_grantedShare iX8_grantedShare = true := by decide +kernel
def iX8_feed : dk_T := [(0, .aload_n 0, 1), (1, .getfield 29, 3), (4, .getfield 243, 3), (7, .bipush 60, 2), (9, .if_icmp .lt 13, 3), (12, .new 246, 3), (15, .dup, 1), (16, .ldc 248, 2), (18, .invokespecial 250, 3), (21, .athrow, 1), (22, .aload_n 0, 1), (23, .getfield 29, 3), (26, .iload_n 1, 1), (27, .invokevirtual 251, 3), (30, .aload_n 0, 1), (31, .getfield 29, 3), (34, .getfield 243, 3), (37, .ireturn, 1)]
set_option maxRecDepth 100000 in
theorem kX8_feed : dk_ok cX8_feed iX8_feed = true := by decide +kernel
def iX8_execute : dk_T := [(0, .aload_n 0, 1), (1, .getfield 39, 3), (4, .aload_n 0, 1), (5, .getfield 29, 3), (8, .invokevirtual 255, 3), (11, .istore_n 1, 1), (12, .aload_n 0, 1), (13, .getfield 29, 3), (16, .invokevirtual 259, 3), (19, .iload_n 1, 1), (20, .ifCond .ne 25, 3), (23, .aload_n 0, 1), (24, .aload_n 0, 1), (25, .getfield 39, 3), (28, .getfield 262, 3), (31, .putfield 47, 3), (34, .new 265, 3), (37, .dup, 1), (38, .ldc_w 267, 3), (41, .invokespecial 269, 3), (44, .athrow, 1), (45, .aload_n 0, 1), (46, .getfield 22, 3), (49, .aload_n 0, 1), (50, .getfield 12, 3), (53, .invokevirtual 51, 3), (56, .aload_n 0, 1), (57, .invokevirtual 270, 3), (60, .ifCond .ne 25, 3), (63, .aload_n 0, 1), (64, .getfield 22, 3), (67, .aload_n 0, 1), (68, .getfield 12, 3), (71, .invokevirtual 274, 3), (74, .new 277, 3), (77, .dup, 1), (78, .ldc_w 279, 3), (81, .invokespecial 281, 3), (84, .athrow, 1), (85, .aload_n 0, 1), (86, .getfield 22, 3), (89, .invokevirtual 282, 3), (92, .aload_n 0, 1), (93, .getfield 39, 3), (96, .getfield 285, 3), (99, .ireturn, 1)]
set_option maxRecDepth 100000 in
theorem kX8_execute : dk_ok cX8_execute iX8_execute = true := by decide +kernel
def iX8_faultPosition : dk_T := [(0, .aload_n 0, 1), (1, .getfield 47, 3), (4, .iconst (-1), 1), (5, .if_icmp .ne 14, 3), (8, .new 94, 3), (11, .dup, 1), (12, .ldc_w 288, 3), (15, .invokespecial 98, 3), (18, .athrow, 1), (19, .aload_n 0, 1), (20, .getfield 47, 3), (23, .ireturn, 1)]
set_option maxRecDepth 100000 in
theorem kX8_faultPosition : dk_ok cX8_faultPosition iX8_faultPosition = true := by decide +kernel
def iX8_writePetition_p0 : dk_T := [(0, .aload_n 0, 1), (1, .iload_n 1, 1), (2, .invokevirtual 144, 3), (5, .astore_n 2, 1), (6, .aload_n 0, 1), (7, .getfield 33, 3), (10, .invokevirtual 259, 3), (13, .aload_n 0, 1), (14, .getfield 33, 3), (17, .bipush 35, 2), (19, .aload_n 2, 1), (20, .getfield 141, 3), (23, .invokevirtual 290, 3), (26, .aload_n 0, 1), (27, .getfield 33, 3), (30, .bipush 58, 2), (32, .aload_n 2, 1), (33, .getfield 152, 3), (36, .invokevirtual 290, 3), (39, .aload_n 0, 1), (40, .getfield 33, 3), (43, .bipush 62, 2), (45, .aload_n 2, 1), (46, .getfield 155, 3), (49, .invokevirtual 290, 3), (52, .aload_n 0, 1), (53, .getfield 33, 3), (56, .bipush 64, 2), (58, .aload_n 2, 1), (59, .getfield 117, 3), (62, .invokevirtual 290, 3), (65, .aload_n 0, 1), (66, .getfield 33, 3), (69, .bipush 33, 2), (71, .aload_n 2, 1), (72, .getfield 294, 3), (75, .invokevirtual 290, 3), (78, .aload_n 0, 1), (79, .getfield 33, 3), (82, .bipush 43, 2), (84, .aload_n 2, 1), (85, .invokevirtual 158, 3), (88, .invokevirtual 290, 3), (91, .aload_n 0, 1), (92, .getfield 33, 3), (95, .bipush 45, 2), (97, .aload_n 2, 1), (98, .invokevirtual 162, 3), (101, .invokevirtual 290, 3), (104, .iconst 0, 1), (105, .istore_n 3, 1), (106, .iload_n 3, 1), (107, .aload_n 2, 1), (108, .getfield 297, 3), (111, .if_icmp .ge 23, 3), (114, .aload_n 0, 1), (115, .getfield 33, 3), (118, .bipush 94, 2), (120, .aload_n 2, 1), (121, .iload_n 3, 1)]
set_option maxRecDepth 100000 in
theorem kX8_writePetition_p0 : dk_ok cX8_writePetition iX8_writePetition_p0 = true := by decide +kernel
def iX8_writePetition_p1 : dk_T := [(122, .invokevirtual 298, 3), (125, .invokevirtual 290, 3), (128, .iinc 3 1, 3), (131, .goto (-25), 3), (134, .aload_n 0, 1), (135, .getfield 33, 3), (138, .getfield 243, 3), (141, .ireturn, 1)]
set_option maxRecDepth 100000 in
theorem kX8_writePetition_p1 : dk_ok cX8_writePetition iX8_writePetition_p1 = true := by decide +kernel
def iX8_writeRow : dk_T := [(0, .iload_n 1, 1), (1, .ifCond .lt 8, 3), (4, .iload_n 1, 1), (5, .iconst 5, 1), (6, .if_icmp .lt 14, 3), (9, .new 73, 3), (12, .dup, 1), (13, .ldc_w 299, 3), (16, .invokespecial 77, 3), (19, .athrow, 1), (20, .aload_n 0, 1), (21, .getfield 33, 3), (24, .invokevirtual 259, 3), (27, .iconst 5, 1), (28, .iload_n 1, 1), (29, .imul, 1), (30, .istore_n 2, 1), (31, .iload_n 2, 1), (32, .iconst 5, 1), (33, .iload_n 1, 1), (34, .imul, 1), (35, .iconst 5, 1), (36, .iadd, 1), (37, .if_icmp .ge 43, 3), (40, .aload_n 0, 1), (41, .getfield 12, 3), (44, .iload_n 2, 1), (45, .invokevirtual 91, 3), (48, .istore_n 3, 1), (49, .iload_n 3, 1), (50, .iconst (-1), 1), (51, .if_icmp .ne 15, 3), (54, .aload_n 0, 1), (55, .getfield 33, 3), (58, .bipush 46, 2), (60, .invokevirtual 251, 3), (63, .goto 11, 3), (66, .aload_n 0, 1), (67, .getfield 33, 3), (70, .iload_n 3, 1), (71, .invokevirtual 301, 3), (74, .iinc 2 1, 3), (77, .goto (-46), 3), (80, .aload_n 0, 1), (81, .getfield 33, 3), (84, .getfield 243, 3), (87, .ireturn, 1)]
set_option maxRecDepth 100000 in
theorem kX8_writeRow : dk_ok cX8_writeRow iX8_writeRow = true := by decide +kernel
def iX8_lineCharacter : dk_T := [(0, .iload_n 1, 1), (1, .ifCond .lt 14, 3), (4, .iload_n 1, 1), (5, .aload_n 0, 1), (6, .getfield 33, 3), (9, .getfield 243, 3), (12, .if_icmp .lt 14, 3), (15, .new 73, 3), (18, .dup, 1), (19, .ldc_w 305, 3), (22, .invokespecial 77, 3), (25, .athrow, 1), (26, .aload_n 0, 1), (27, .getfield 33, 3), (30, .iload_n 1, 1), (31, .invokevirtual 307, 3), (34, .ireturn, 1)]
set_option maxRecDepth 100000 in
theorem kX8_lineCharacter : dk_ok cX8_lineCharacter iX8_lineCharacter = true := by decide +kernel
def iX8_denial : dk_T := [(0, .aload_n 0, 1), (1, .invokevirtual 311, 3), (4, .aload_n 0, 1), (5, .getfield 314, 3), (8, .ireturn, 1)]
set_option maxRecDepth 100000 in
theorem kX8_denial : dk_ok cX8_denial iX8_denial = true := by decide +kernel
def iX8_denialDetail : dk_T := [(0, .aload_n 0, 1), (1, .invokevirtual 311, 3), (4, .aload_n 0, 1), (5, .getfield 317, 3), (8, .ireturn, 1)]
set_option maxRecDepth 100000 in
theorem kX8_denialDetail : dk_ok cX8_denialDetail iX8_denialDetail = true := by decide +kernel
def iX8_denialCause : dk_T := [(0, .aload_n 0, 1), (1, .invokevirtual 320, 3), (4, .aload_n 0, 1), (5, .getfield 323, 3), (8, .ireturn, 1)]
set_option maxRecDepth 100000 in
theorem kX8_denialCause : dk_ok cX8_denialCause iX8_denialCause = true := by decide +kernel
def iX8_denialCauseDetail : dk_T := [(0, .aload_n 0, 1), (1, .invokevirtual 320, 3), (4, .aload_n 0, 1), (5, .getfield 326, 3), (8, .ireturn, 1)]
set_option maxRecDepth 100000 in
theorem kX8_denialCauseDetail : dk_ok cX8_denialCauseDetail iX8_denialCauseDetail = true := by decide +kernel
def iX8_undo : dk_T := [(0, .aload_n 0, 1), (1, .getfield 22, 3), (4, .getfield 329, 3), (7, .ifCond .ne 14, 3), (10, .new 246, 3), (13, .dup, 1), (14, .ldc_w 330, 3), (17, .invokespecial 250, 3), (20, .athrow, 1), (21, .aload_n 0, 1), (22, .getfield 22, 3), (25, .aload_n 0, 1), (26, .getfield 12, 3), (29, .invokevirtual 332, 3), (32, .aload_n 0, 1), (33, .getfield 22, 3), (36, .getfield 329, 3), (39, .ireturn, 1)]
set_option maxRecDepth 100000 in
theorem kX8_undo : dk_ok cX8_undo iX8_undo = true := by decide +kernel
def iX8_undoCount : dk_T := [(0, .aload_n 0, 1), (1, .getfield 22, 3), (4, .getfield 329, 3), (7, .ireturn, 1)]
set_option maxRecDepth 100000 in
theorem kX8_undoCount : dk_ok cX8_undoCount iX8_undoCount = true := by decide +kernel
def iX8_saveSnapshot : dk_T := [(0, .aload_n 0, 1), (1, .getfield 16, 3), (4, .aload_n 0, 1), (5, .getfield 12, 3), (8, .invokevirtual 335, 3), (11, .aload_n 0, 1), (12, .iconst 1, 1), (13, .putfield 338, 3), (16, .aload_n 0, 1), (17, .getfield 12, 3), (20, .getfield 110, 3), (23, .ireturn, 1)]
set_option maxRecDepth 100000 in
theorem kX8_saveSnapshot : dk_ok cX8_saveSnapshot iX8_saveSnapshot = true := by decide +kernel
def iX8_restoreSnapshot : dk_T := [(0, .aload_n 0, 1), (1, .getfield 338, 3), (4, .ifCond .ne 14, 3), (7, .new 246, 3), (10, .dup, 1), (11, .ldc_w 341, 3), (14, .invokespecial 250, 3), (17, .athrow, 1), (18, .aload_n 0, 1), (19, .getfield 12, 3), (22, .aload_n 0, 1), (23, .getfield 16, 3), (26, .invokevirtual 335, 3), (29, .aload_n 0, 1), (30, .getfield 22, 3), (33, .invokevirtual 343, 3), (36, .aload_n 0, 1), (37, .getfield 12, 3), (40, .getfield 110, 3), (43, .ireturn, 1)]
set_option maxRecDepth 100000 in
theorem kX8_restoreSnapshot : dk_ok cX8_restoreSnapshot iX8_restoreSnapshot = true := by decide +kernel
def iX8_placeStone : dk_T := [(0, .iload_n 1, 1), (1, .invokestatic 86, 3), (4, .ifCond .ne 5, 3), (7, .iconst (-1), 1), (8, .ireturn, 1), (9, .iload_n 2, 1), (10, .iconst 1, 1), (11, .if_icmp .lt 9, 3), (14, .iload_n 2, 1), (15, .bipush 9, 2), (17, .if_icmp .le 6, 3), (20, .bipush (-2), 2), (22, .ireturn, 1), (23, .aload_n 0, 1), (24, .getfield 12, 3), (27, .iload_n 1, 1), (28, .invokevirtual 91, 3), (31, .istore_n 3, 1), (32, .iload_n 3, 1), (33, .iconst (-1), 1), (34, .if_icmp .eq 10, 3), (37, .aload_n 0, 1), (38, .iconst 2, 1), (39, .iload_n 3, 1), (40, .invokevirtual 346, 3), (43, .ireturn, 1), (44, .aload_n 0, 1), (45, .getfield 12, 3), (48, .getfield 66, 3), (51, .bipush 10, 2), (53, .if_icmp .lt 11, 3), (56, .aload_n 0, 1), (57, .iconst 1, 1), (58, .bipush 10, 2), (60, .invokevirtual 346, 3), (63, .ireturn, 1), (64, .aload_n 0, 1), (65, .getfield 12, 3), (68, .iload_n 1, 1), (69, .iload_n 2, 1), (70, .invokevirtual 349, 3), (73, .ireturn, 1)]
set_option maxRecDepth 100000 in
theorem kX8_placeStone : dk_ok cX8_placeStone iX8_placeStone = true := by decide +kernel
def iX8_enlistOfficer : dk_T := [(0, .iload_n 1, 1), (1, .iconst 1, 1), (2, .if_icmp .lt 9, 3), (5, .iload_n 1, 1), (6, .bipush 9, 2), (8, .if_icmp .le 6, 3), (11, .bipush (-2), 2), (13, .ireturn, 1), (14, .aload_n 0, 1), (15, .getfield 12, 3), (18, .getfield 99, 3), (21, .bipush 6, 2), (23, .if_icmp .lt 11, 3), (26, .aload_n 0, 1), (27, .iconst 1, 1), (28, .bipush 6, 2), (30, .invokevirtual 346, 3), (33, .ireturn, 1), (34, .aload_n 0, 1), (35, .getfield 12, 3), (38, .iload_n 1, 1), (39, .invokevirtual 352, 3), (42, .ireturn, 1)]
set_option maxRecDepth 100000 in
theorem kX8_enlistOfficer : dk_ok cX8_enlistOfficer iX8_enlistOfficer = true := by decide +kernel
def iX8_changeQuorum : dk_T := [(0, .iload_n 1, 1), (1, .iconst 1, 1), (2, .if_icmp .lt 8, 3), (5, .iload_n 1, 1), (6, .iconst 5, 1), (7, .if_icmp .le 6, 3), (10, .bipush (-2), 2), (12, .ireturn, 1), (13, .iload_n 1, 1), (14, .aload_n 0, 1), (15, .getfield 12, 3), (18, .getfield 174, 3), (21, .if_icmp .ne 11, 3), (24, .aload_n 0, 1), (25, .bipush 11, 2), (27, .iload_n 1, 1), (28, .invokevirtual 346, 3), (31, .ireturn, 1), (32, .aload_n 0, 1), (33, .getfield 12, 3), (36, .getfield 174, 3), (39, .istore_n 2, 1), (40, .aload_n 0, 1), (41, .getfield 12, 3), (44, .iload_n 1, 1), (45, .putfield 174, 3), (48, .iload_n 2, 1), (49, .ireturn, 1)]
set_option maxRecDepth 100000 in
theorem kX8_changeQuorum : dk_ok cX8_changeQuorum iX8_changeQuorum = true := by decide +kernel
def iX8_lodgePetition_p0 : dk_T := [(0, .aload_n 0, 1), (1, .getfield 12, 3), (4, .iload_n 1, 1), (5, .invokevirtual 102, 3), (8, .ifCond .eq 21, 3), (11, .aload_n 0, 1), (12, .getfield 12, 3), (15, .iload_n 2, 1), (16, .invokevirtual 69, 3), (19, .ifCond .eq 10, 3), (22, .iload_n 3, 1), (23, .invokestatic 86, 3), (26, .ifCond .ne 5, 3), (29, .iconst (-1), 1), (30, .ireturn, 1), (31, .iload 4, 2), (33, .ifCond .lt 10, 3), (36, .iload 4, 2), (38, .bipush 9, 2), (40, .if_icmp .le 6, 3), (43, .bipush (-2), 2), (45, .ireturn, 1), (46, .aload_n 0, 1), (47, .getfield 12, 3), (50, .iload_n 2, 1), (51, .invokevirtual 355, 3), (54, .astore 5, 2), (56, .aload 5, 2), (58, .ifnull 14, 3), (61, .aload_n 0, 1), (62, .iconst 3, 1), (63, .aload 5, 2), (65, .getfield 141, 3), (68, .invokevirtual 346, 3), (71, .ireturn, 1), (72, .aload_n 0, 1), (73, .getfield 12, 3), (76, .getfield 80, 3), (79, .iload_n 2, 1), (80, .iaload, 1), (81, .iload_n 3, 1), (82, .if_icmp .ne 10, 3), (85, .aload_n 0, 1), (86, .iconst 4, 1), (87, .iload_n 3, 1), (88, .invokevirtual 346, 3), (91, .ireturn, 1), (92, .aload_n 0, 1), (93, .getfield 12, 3), (96, .getfield 110, 3), (99, .bipush 8, 2), (101, .if_icmp .lt 11, 3), (104, .aload_n 0, 1), (105, .iconst 1, 1), (106, .bipush 8, 2), (108, .invokevirtual 346, 3), (111, .ireturn, 1), (112, .aload_n 0, 1), (113, .getfield 12, 3), (116, .iload_n 1, 1)]
set_option maxRecDepth 100000 in
theorem kX8_lodgePetition_p0 : dk_ok cX8_lodgePetition iX8_lodgePetition_p0 = true := by decide +kernel
def iX8_lodgePetition_p1 : dk_T := [(117, .iload_n 2, 1), (118, .iload_n 3, 1), (119, .iload 4, 2), (121, .invokevirtual 358, 3), (124, .ireturn, 1)]
set_option maxRecDepth 100000 in
theorem kX8_lodgePetition_p1 : dk_ok cX8_lodgePetition iX8_lodgePetition_p1 = true := by decide +kernel
def iX8_castVote : dk_T := [(0, .aload_n 0, 1), (1, .getfield 12, 3), (4, .iload_n 1, 1), (5, .invokevirtual 102, 3), (8, .ifCond .ne 5, 3), (11, .iconst (-1), 1), (12, .ireturn, 1), (13, .aload_n 0, 1), (14, .getfield 12, 3), (17, .iload_n 2, 1), (18, .invokevirtual 361, 3), (21, .astore 4, 2), (23, .aload 4, 2), (25, .ifnonnull 6, 3), (28, .bipush (-3), 2), (30, .ireturn, 1), (31, .aload 4, 2), (33, .getfield 117, 3), (36, .iload_n 1, 1), (37, .if_icmp .ne 11, 3), (40, .aload_n 0, 1), (41, .bipush 6, 2), (43, .iload_n 1, 1), (44, .invokevirtual 346, 3), (47, .ireturn, 1), (48, .aload 4, 2), (50, .iload_n 1, 1), (51, .invokevirtual 364, 3), (54, .ifCond .eq 10, 3), (57, .aload_n 0, 1), (58, .iconst 5, 1), (59, .iconst 1, 1), (60, .invokevirtual 346, 3), (63, .ireturn, 1), (64, .aload 4, 2), (66, .iload_n 1, 1), (67, .invokevirtual 367, 3), (70, .ifCond .eq 10, 3), (73, .aload_n 0, 1), (74, .iconst 5, 1), (75, .iconst 0, 1), (76, .invokevirtual 346, 3), (79, .ireturn, 1), (80, .aload 4, 2), (82, .iload_n 1, 1), (83, .iload_n 3, 1), (84, .invokevirtual 370, 3), (87, .aload 4, 2), (89, .invokevirtual 238, 3), (92, .ireturn, 1)]
set_option maxRecDepth 100000 in
theorem kX8_castVote : dk_ok cX8_castVote iX8_castVote = true := by decide +kernel
def iX8_citeRuling : dk_T := [(0, .aload_n 0, 1), (1, .getfield 12, 3), (4, .iload_n 1, 1), (5, .invokevirtual 361, 3), (8, .astore_n 3, 1), (9, .aload_n 3, 1), (10, .ifnull 14, 3), (13, .aload_n 0, 1), (14, .getfield 12, 3), (17, .iload_n 2, 1), (18, .invokevirtual 374, 3), (21, .ifnonnull 6, 3), (24, .bipush (-3), 2), (26, .ireturn, 1), (27, .aload_n 3, 1), (28, .iload_n 2, 1), (29, .invokevirtual 377, 3), (32, .ifCond .eq 11, 3), (35, .aload_n 0, 1), (36, .bipush 7, 2), (38, .iload_n 2, 1), (39, .invokevirtual 346, 3), (42, .ireturn, 1), (43, .aload_n 3, 1), (44, .getfield 297, 3), (47, .iconst 3, 1), (48, .if_icmp .lt 10, 3), (51, .aload_n 0, 1), (52, .iconst 1, 1), (53, .iconst 3, 1), (54, .invokevirtual 346, 3), (57, .ireturn, 1), (58, .aload_n 3, 1), (59, .iload_n 2, 1), (60, .invokevirtual 378, 3), (63, .aload_n 3, 1), (64, .getfield 297, 3), (67, .ireturn, 1)]
set_option maxRecDepth 100000 in
theorem kX8_citeRuling : dk_ok cX8_citeRuling iX8_citeRuling = true := by decide +kernel
def iX8_vetoPetition : dk_T := [(0, .aload_n 0, 1), (1, .getfield 12, 3), (4, .iload_n 1, 1), (5, .invokevirtual 102, 3), (8, .ifCond .ne 5, 3), (11, .iconst (-1), 1), (12, .ireturn, 1), (13, .aload_n 0, 1), (14, .getfield 12, 3), (17, .iload_n 2, 1), (18, .invokevirtual 361, 3), (21, .astore_n 3, 1), (22, .aload_n 3, 1), (23, .ifnonnull 6, 3), (26, .bipush (-3), 2), (28, .ireturn, 1), (29, .aload_n 0, 1), (30, .getfield 12, 3), (33, .getfield 107, 3), (36, .iload_n 1, 1), (37, .iaload, 1), (38, .aload_n 3, 1), (39, .getfield 381, 3), (42, .if_icmp .gt 14, 3), (45, .aload_n 0, 1), (46, .bipush 8, 2), (48, .aload_n 3, 1), (49, .getfield 381, 3), (52, .invokevirtual 346, 3), (55, .ireturn, 1), (56, .aload_n 0, 1), (57, .getfield 12, 3), (60, .aload_n 3, 1), (61, .invokevirtual 384, 3), (64, .aload_n 0, 1), (65, .getfield 12, 3), (68, .dup, 1), (69, .getfield 224, 3), (72, .iconst 1, 1), (73, .iadd, 1), (74, .putfield 224, 3), (77, .aload_n 0, 1), (78, .getfield 12, 3), (81, .getfield 110, 3), (84, .ireturn, 1)]
set_option maxRecDepth 100000 in
theorem kX8_vetoPetition : dk_ok cX8_vetoPetition iX8_vetoPetition = true := by decide +kernel
def iX8_withdrawPetition : dk_T := [(0, .aload_n 0, 1), (1, .getfield 12, 3), (4, .iload_n 1, 1), (5, .invokevirtual 361, 3), (8, .astore_n 2, 1), (9, .aload_n 2, 1), (10, .ifnonnull 6, 3), (13, .bipush (-3), 2), (15, .ireturn, 1), (16, .aload_n 0, 1), (17, .getfield 12, 3), (20, .aload_n 2, 1), (21, .invokevirtual 384, 3), (24, .aload_n 0, 1), (25, .getfield 12, 3), (28, .dup, 1), (29, .getfield 227, 3), (32, .iconst 1, 1), (33, .iadd, 1), (34, .putfield 227, 3), (37, .aload_n 0, 1), (38, .getfield 12, 3), (41, .getfield 110, 3), (44, .ireturn, 1)]
set_option maxRecDepth 100000 in
theorem kX8_withdrawPetition : dk_ok cX8_withdrawPetition iX8_withdrawPetition = true := by decide +kernel
def iX8_decideFirst : dk_T := [(0, .aload_n 0, 1), (1, .getfield 12, 3), (4, .getfield 110, 3), (7, .ifCond .ne 17, 3), (10, .aload_n 0, 1), (11, .bipush 9, 2), (13, .aload_n 0, 1), (14, .getfield 12, 3), (17, .getfield 177, 3), (20, .invokevirtual 346, 3), (23, .ireturn, 1), (24, .aload_n 0, 1), (25, .getfield 12, 3), (28, .getfield 113, 3), (31, .iconst 0, 1), (32, .aaload, 1), (33, .astore_n 1, 1), (34, .aload_n 1, 1), (35, .invokevirtual 238, 3), (38, .aload_n 0, 1), (39, .getfield 12, 3), (42, .getfield 174, 3), (45, .if_icmp .ge 14, 3), (48, .aload_n 0, 1), (49, .bipush 10, 2), (51, .aload_n 1, 1), (52, .invokevirtual 238, 3), (55, .invokevirtual 346, 3), (58, .ireturn, 1), (59, .aload_n 0, 1), (60, .getfield 12, 3), (63, .getfield 177, 3), (66, .bipush 16, 2), (68, .if_icmp .lt 11, 3), (71, .aload_n 0, 1), (72, .iconst 1, 1), (73, .bipush 16, 2), (75, .invokevirtual 346, 3), (78, .ireturn, 1), (79, .aload_n 0, 1), (80, .getfield 12, 3), (83, .aload_n 1, 1), (84, .invokevirtual 388, 3), (87, .ireturn, 1)]
set_option maxRecDepth 100000 in
theorem kX8_decideFirst : dk_ok cX8_decideFirst iX8_decideFirst = true := by decide +kernel
def iX8_deny : dk_T := [(0, .aload_n 0, 1), (1, .iload_n 1, 1), (2, .putfield 392, 3), (5, .aload_n 0, 1), (6, .iload_n 2, 1), (7, .putfield 395, 3), (10, .bipush (-4), 2), (12, .ireturn, 1)]
set_option maxRecDepth 100000 in
theorem kX8_deny : dk_ok cX8_deny iX8_deny = true := by decide +kernel
def iX8_conclude : dk_T := [(0, .iload_n 1, 1), (1, .iconst (-1), 1), (2, .if_icmp .ne 14, 3), (5, .new 73, 3), (8, .dup, 1), (9, .ldc_w 398, 3), (12, .invokespecial 77, 3), (15, .athrow, 1), (16, .iload_n 1, 1), (17, .bipush (-2), 2), (19, .if_icmp .ne 14, 3), (22, .new 265, 3), (25, .dup, 1), (26, .ldc_w 400, 3), (29, .invokespecial 269, 3), (32, .athrow, 1), (33, .iload_n 1, 1), (34, .bipush (-3), 2), (36, .if_icmp .ne 14, 3), (39, .new 94, 3), (42, .dup, 1), (43, .ldc_w 402, 3), (46, .invokespecial 98, 3), (49, .athrow, 1), (50, .iload_n 1, 1), (51, .bipush (-4), 2), (53, .if_icmp .ne 28, 3), (56, .aload_n 0, 1), (57, .aload_n 0, 1), (58, .getfield 392, 3), (61, .aload_n 0, 1), (62, .getfield 395, 3), (65, .iconst 0, 1), (66, .iconst 0, 1), (67, .invokevirtual 404, 3), (70, .new 277, 3), (73, .dup, 1), (74, .ldc_w 408, 3), (77, .invokespecial 281, 3), (80, .athrow, 1), (81, .aload_n 0, 1), (82, .getfield 22, 3), (85, .invokevirtual 282, 3), (88, .iload_n 1, 1), (89, .ireturn, 1)]
set_option maxRecDepth 100000 in
theorem kX8_conclude : dk_ok cX8_conclude iX8_conclude = true := by decide +kernel
def iX8_runCommands : dk_T := [(0, .iconst 0, 1), (1, .istore_n 1, 1), (2, .iload_n 1, 1), (3, .aload_n 0, 1), (4, .getfield 39, 3), (7, .getfield 285, 3), (10, .if_icmp .ge 62, 3), (13, .aload_n 0, 1), (14, .aload_n 0, 1), (15, .getfield 39, 3), (18, .getfield 410, 3), (21, .iload_n 1, 1), (22, .aaload, 1), (23, .invokevirtual 414, 3), (26, .istore_n 2, 1), (27, .iload_n 2, 1), (28, .bipush (-4), 2), (30, .if_icmp .ne 20, 3), (33, .aload_n 0, 1), (34, .bipush 12, 2), (36, .iload_n 1, 1), (37, .aload_n 0, 1), (38, .getfield 392, 3), (41, .aload_n 0, 1), (42, .getfield 395, 3), (45, .invokevirtual 404, 3), (48, .iconst 0, 1), (49, .ireturn, 1), (50, .iload_n 2, 1), (51, .ifCond .ge 15, 3), (54, .aload_n 0, 1), (55, .bipush 12, 2), (57, .iload_n 1, 1), (58, .bipush 13, 2), (60, .iconst 0, 1), (61, .invokevirtual 404, 3), (64, .iconst 0, 1), (65, .ireturn, 1), (66, .iinc 1 1, 3), (69, .goto (-67), 3), (72, .iconst 1, 1), (73, .ireturn, 1)]
set_option maxRecDepth 100000 in
theorem kX8_runCommands : dk_ok cX8_runCommands iX8_runCommands = true := by decide +kernel
def iX8_attempt_p0 : dk_T := [(0, .aload_n 1, 1), (1, .getfield 418, 3), (4, .tableswitch 223 99 121 #[188, 223, 223, 139, 223, 223, 223, 223, 223, 223, 223, 174, 121, 223, 130, 223, 108, 223, 223, 201, 214, 223, 160], 108), (112, .aload_n 0, 1), (113, .aload_n 1, 1), (114, .getfield 424, 3), (117, .aload_n 1, 1), (118, .getfield 427, 3), (121, .invokevirtual 55, 3), (124, .ireturn, 1), (125, .aload_n 0, 1), (126, .aload_n 1, 1), (127, .getfield 424, 3), (130, .invokevirtual 63, 3), (133, .ireturn, 1), (134, .aload_n 0, 1), (135, .aload_n 1, 1), (136, .getfield 424, 3), (139, .invokevirtual 168, 3), (142, .ireturn, 1), (143, .aload_n 0, 1), (144, .aload_n 1, 1), (145, .getfield 424, 3), (148, .aload_n 1, 1), (149, .getfield 427, 3), (152, .aload_n 1, 1), (153, .getfield 430, 3), (156, .aload_n 1, 1), (157, .getfield 433, 3), (160, .invokevirtual 122, 3), (163, .ireturn, 1), (164, .aload_n 0, 1), (165, .aload_n 1, 1), (166, .getfield 424, 3), (169, .aload_n 1, 1), (170, .getfield 427, 3), (173, .iconst 1, 1), (174, .invokevirtual 126, 3), (177, .ireturn, 1), (178, .aload_n 0, 1), (179, .aload_n 1, 1), (180, .getfield 424, 3), (183, .aload_n 1, 1), (184, .getfield 427, 3), (187, .iconst 0, 1), (188, .invokevirtual 126, 3), (191, .ireturn, 1), (192, .aload_n 0, 1), (193, .aload_n 1, 1), (194, .getfield 424, 3), (197, .aload_n 1, 1), (198, .getfield 427, 3), (201, .invokevirtual 130, 3), (204, .ireturn, 1), (205, .aload_n 0, 1), (206, .aload_n 1, 1), (207, .getfield 424, 3), (210, .aload_n 1, 1), (211, .getfield 427, 3), (214, .invokevirtual 133, 3)]
set_option maxRecDepth 100000 in
theorem kX8_attempt_p0 : dk_ok cX8_attempt iX8_attempt_p0 = true := by decide +kernel
def iX8_attempt_p1 : dk_T := [(217, .ireturn, 1), (218, .aload_n 0, 1), (219, .aload_n 1, 1), (220, .getfield 424, 3), (223, .invokevirtual 136, 3), (226, .ireturn, 1), (227, .aload_n 0, 1), (228, .invokevirtual 171, 3), (231, .ireturn, 1)]
set_option maxRecDepth 100000 in
theorem kX8_attempt_p1 : dk_ok cX8_attempt iX8_attempt_p1 = true := by decide +kernel
def iX8_keepDenial : dk_T := [(0, .aload_n 0, 1), (1, .iload_n 1, 1), (2, .putfield 314, 3), (5, .aload_n 0, 1), (6, .iload_n 2, 1), (7, .putfield 317, 3), (10, .aload_n 0, 1), (11, .iload_n 3, 1), (12, .putfield 323, 3), (15, .aload_n 0, 1), (16, .iload 4, 2), (18, .putfield 326, 3), (21, .return_, 1)]
set_option maxRecDepth 100000 in
theorem kX8_keepDenial : dk_ok cX8_keepDenial iX8_keepDenial = true := by decide +kernel
def iX8_isCell : dk_T := [(0, .iload_n 0, 1), (1, .ifCond .lt 13, 3), (4, .iload_n 0, 1), (5, .bipush 25, 2), (7, .if_icmp .ge 7, 3), (10, .iconst 1, 1), (11, .goto 4, 3), (14, .iconst 0, 1), (15, .ireturn, 1)]
set_option maxRecDepth 100000 in
theorem kX8_isCell : dk_ok cX8_isCell iX8_isCell = true := by decide +kernel
def iX8_requirePetition : dk_T := [(0, .aload_n 0, 1), (1, .getfield 12, 3), (4, .iload_n 1, 1), (5, .invokevirtual 361, 3), (8, .astore_n 2, 1), (9, .aload_n 2, 1), (10, .ifnonnull 14, 3), (13, .new 94, 3), (16, .dup, 1), (17, .ldc_w 436, 3), (20, .invokespecial 98, 3), (23, .athrow, 1), (24, .aload_n 2, 1), (25, .areturn, 1)]
set_option maxRecDepth 100000 in
theorem kX8_requirePetition : dk_ok cX8_requirePetition iX8_requirePetition = true := by decide +kernel
def iX8_requireRuling : dk_T := [(0, .aload_n 0, 1), (1, .getfield 12, 3), (4, .iload_n 1, 1), (5, .invokevirtual 374, 3), (8, .astore_n 2, 1), (9, .aload_n 2, 1), (10, .ifnonnull 14, 3), (13, .new 73, 3), (16, .dup, 1), (17, .ldc_w 438, 3), (20, .invokespecial 77, 3), (23, .athrow, 1), (24, .aload_n 2, 1), (25, .areturn, 1)]
set_option maxRecDepth 100000 in
theorem kX8_requireRuling : dk_ok cX8_requireRuling iX8_requireRuling = true := by decide +kernel
def iX8_requireDenial : dk_T := [(0, .aload_n 0, 1), (1, .getfield 314, 3), (4, .ifCond .ne 14, 3), (7, .new 94, 3), (10, .dup, 1), (11, .ldc_w 440, 3), (14, .invokespecial 98, 3), (17, .athrow, 1), (18, .return_, 1)]
set_option maxRecDepth 100000 in
theorem kX8_requireDenial : dk_ok cX8_requireDenial iX8_requireDenial = true := by decide +kernel
def iX8_requireCause : dk_T := [(0, .aload_n 0, 1), (1, .getfield 323, 3), (4, .ifCond .ne 14, 3), (7, .new 94, 3), (10, .dup, 1), (11, .ldc_w 442, 3), (14, .invokespecial 98, 3), (17, .athrow, 1), (18, .return_, 1)]
set_option maxRecDepth 100000 in
theorem kX8_requireCause : dk_ok cX8_requireCause iX8_requireCause = true := by decide +kernel
def iX8_rankByInfluence : dk_T := [(0, .iconst 0, 1), (1, .istore_n 2, 1), (2, .iconst 0, 1), (3, .istore_n 3, 1), (4, .iload_n 3, 1), (5, .aload_n 0, 1), (6, .getfield 12, 3), (9, .getfield 177, 3), (12, .if_icmp .ge 71, 3), (15, .aload_n 0, 1), (16, .getfield 43, 3), (19, .iload_n 3, 1), (20, .iaload, 1), (21, .aload_n 0, 1), (22, .getfield 43, 3), (25, .iload_n 1, 1), (26, .iaload, 1), (27, .if_icmp .le 7, 3), (30, .iconst 1, 1), (31, .goto 4, 3), (34, .iconst 0, 1), (35, .istore 4, 2), (37, .aload_n 0, 1), (38, .getfield 43, 3), (41, .iload_n 3, 1), (42, .iaload, 1), (43, .aload_n 0, 1), (44, .getfield 43, 3), (47, .iload_n 1, 1), (48, .iaload, 1), (49, .if_icmp .ne 12, 3), (52, .iload_n 3, 1), (53, .iload_n 1, 1), (54, .if_icmp .ge 7, 3), (57, .iconst 1, 1), (58, .goto 4, 3), (61, .iconst 0, 1), (62, .istore 5, 2), (64, .iload 4, 2), (66, .ifCond .ne 8, 3), (69, .iload 5, 2), (71, .ifCond .eq 6, 3), (74, .iinc 2 1, 3), (77, .iinc 3 1, 3), (80, .goto (-76), 3), (83, .iload_n 2, 1), (84, .ireturn, 1)]
set_option maxRecDepth 100000 in
theorem kX8_rankByInfluence : dk_ok cX8_rankByInfluence iX8_rankByInfluence = true := by decide +kernel
def iX9_init : dk_T := [(0, .aload_n 0, 1), (1, .invokespecial 1, 3), (4, .aload_n 0, 1), (5, .sipush 219, 3), (8, .newarray .int, 2), (10, .putfield 7, 3), (13, .aload_n 0, 1), (14, .sipush 1752, 3), (17, .newarray .int, 2), (19, .putfield 13, 3), (22, .aload_n 0, 1), (23, .sipush 219, 3), (26, .newarray .int, 2), (28, .putfield 16, 3), (31, .aload_n 0, 1), (32, .sipush 219, 3), (35, .newarray .int, 2), (37, .putfield 19, 3), (40, .aload_n 0, 1), (41, .bipush 60, 2), (43, .newarray .int, 2), (45, .putfield 22, 3), (48, .aload_n 0, 1), (49, .iconst (-1), 1), (50, .putfield 25, 3), (53, .aload_n 0, 1), (54, .bipush 60, 2), (56, .newarray .char, 2), (58, .putfield 29, 3), (61, .aload_n 0, 1), (62, .bipush 16, 2), (64, .newarray .int, 2), (66, .putfield 33, 3), (69, .aload_n 0, 1), (70, .sipush 155, 3), (73, .newarray .int, 2), (75, .putfield 36, 3), (78, .aload_n 0, 1), (79, .getfield 7, 3), (82, .iconst 2, 1), (83, .iconst 2, 1), (84, .iastore, 1), (85, .return_, 1)]
set_option maxRecDepth 100000 in
theorem kX9_init : dk_ok cX9_init iX9_init = true := by decide +kernel
def iX9_thrown : dk_T := [(0, .aload_n 0, 1), (1, .getfield 39, 3), (4, .ireturn, 1)]
set_option maxRecDepth 100000 in
theorem kX9_thrown : dk_ok cX9_thrown iX9_thrown = true := by decide +kernel
def iX9_fails : dk_T := [(0, .aload_n 0, 1), (1, .iload_n 1, 1), (2, .putfield 39, 3), (5, .aload_n 0, 1), (6, .iconst 0, 1), (7, .putfield 42, 3), (10, .iload_n 1, 1), (11, .ifCond .le 7, 3), (14, .iconst 1, 1), (15, .goto 4, 3), (18, .iconst 0, 1), (19, .ireturn, 1)]
set_option maxRecDepth 100000 in
theorem kX9_fails : dk_ok cX9_fails iX9_fails = true := by decide +kernel
def iX9_denies : dk_T := [(0, .aload_n 0, 1), (1, .iload_n 1, 1), (2, .putfield 39, 3), (5, .aload_n 0, 1), (6, .iconst 1, 1), (7, .putfield 42, 3), (10, .aload_n 0, 1), (11, .iload_n 2, 1), (12, .putfield 46, 3), (15, .aload_n 0, 1), (16, .iload_n 3, 1), (17, .putfield 49, 3), (20, .aload_n 0, 1), (21, .iconst 0, 1), (22, .putfield 52, 3), (25, .aload_n 0, 1), (26, .iconst 0, 1), (27, .putfield 55, 3), (30, .iconst 0, 1), (31, .ireturn, 1)]
set_option maxRecDepth 100000 in
theorem kX9_denies : dk_ok cX9_denies iX9_denies = true := by decide +kernel
def iX9_in : dk_T := [(0, .iload_n 0, 1), (1, .iload_n 1, 1), (2, .if_icmp .lt 12, 3), (5, .iload_n 0, 1), (6, .iload_n 2, 1), (7, .if_icmp .gt 7, 3), (10, .iconst 1, 1), (11, .goto 4, 3), (14, .iconst 0, 1), (15, .ireturn, 1)]
set_option maxRecDepth 100000 in
theorem kX9_in : dk_ok cX9_in iX9_in = true := by decide +kernel
def iX9_copies : dk_T := [(0, .iconst 0, 1), (1, .istore 4, 2), (3, .iload 4, 2), (5, .sipush 219, 3), (8, .if_icmp .ge 21, 3), (11, .aload_n 2, 1), (12, .iload_n 3, 1), (13, .iload 4, 2), (15, .iadd, 1), (16, .aload_n 0, 1), (17, .iload_n 1, 1), (18, .iload 4, 2), (20, .iadd, 1), (21, .iaload, 1), (22, .iastore, 1), (23, .iinc 4 1, 3), (26, .goto (-23), 3), (29, .return_, 1)]
set_option maxRecDepth 100000 in
theorem kX9_copies : dk_ok cX9_copies iX9_copies = true := by decide +kernel
def iX9_keeps : dk_T := [(0, .aload_n 0, 1), (1, .iconst 0, 1), (2, .putfield 39, 3), (5, .aload_n 0, 1), (6, .getfield 58, 3), (9, .ifCond .eq 4, 3), (12, .return_, 1), (13, .aload_n 0, 1), (14, .getfield 61, 3), (17, .bipush 8, 2), (19, .if_icmp .ne 44, 3), (22, .iconst 0, 1), (23, .istore_n 2, 1), (24, .iload_n 2, 1), (25, .sipush 1533, 3), (28, .if_icmp .ge 25, 3), (31, .aload_n 0, 1), (32, .getfield 13, 3), (35, .iload_n 2, 1), (36, .aload_n 0, 1), (37, .getfield 13, 3), (40, .iload_n 2, 1), (41, .sipush 219, 3), (44, .iadd, 1), (45, .iaload, 1), (46, .iastore, 1), (47, .iinc 2 1, 3), (50, .goto (-26), 3), (53, .aload_n 0, 1), (54, .dup, 1), (55, .getfield 61, 3), (58, .iconst 1, 1), (59, .isub, 1), (60, .putfield 61, 3), (63, .aload_n 1, 1), (64, .iconst 0, 1), (65, .aload_n 0, 1), (66, .getfield 13, 3), (69, .sipush 219, 3), (72, .aload_n 0, 1), (73, .getfield 61, 3), (76, .imul, 1), (77, .invokestatic 64, 3), (80, .aload_n 0, 1), (81, .dup, 1), (82, .getfield 61, 3), (85, .iconst 1, 1), (86, .iadd, 1), (87, .putfield 61, 3), (90, .return_, 1)]
set_option maxRecDepth 100000 in
theorem kX9_keeps : dk_ok cX9_keeps iX9_keeps = true := by decide +kernel
def iX9_isCell : dk_T := [(0, .iload_n 0, 1), (1, .iconst 0, 1), (2, .bipush 24, 2), (4, .invokestatic 68, 3), (7, .ireturn, 1)]
set_option maxRecDepth 100000 in
theorem kX9_isCell : dk_ok cX9_isCell iX9_isCell = true := by decide +kernel
def iX9_isStone : dk_T := [(0, .iload_n 1, 1), (1, .iconst 0, 1), (2, .aload_n 0, 1), (3, .getfield 7, 3), (6, .iconst 0, 1), (7, .iaload, 1), (8, .iconst 1, 1), (9, .isub, 1), (10, .invokestatic 68, 3), (13, .ireturn, 1)]
set_option maxRecDepth 100000 in
theorem kX9_isStone : dk_ok cX9_isStone iX9_isStone = true := by decide +kernel
def iX9_isOfficer : dk_T := [(0, .iload_n 1, 1), (1, .iconst 0, 1), (2, .aload_n 0, 1), (3, .getfield 7, 3), (6, .iconst 1, 1), (7, .iaload, 1), (8, .iconst 1, 1), (9, .isub, 1), (10, .invokestatic 68, 3), (13, .ireturn, 1)]
set_option maxRecDepth 100000 in
theorem kX9_isOfficer : dk_ok cX9_isOfficer iX9_isOfficer = true := by decide +kernel
def iX9_cell : dk_T := [(0, .aload_n 0, 1), (1, .getfield 7, 3), (4, .bipush 9, 2), (6, .iconst 2, 1), (7, .iload_n 1, 1), (8, .imul, 1), (9, .iadd, 1), (10, .iaload, 1), (11, .ireturn, 1)]
set_option maxRecDepth 100000 in
theorem kX9_cell : dk_ok cX9_cell iX9_cell = true := by decide +kernel
def iX9_heavy : dk_T := [(0, .aload_n 0, 1), (1, .getfield 7, 3), (4, .bipush 9, 2), (6, .iconst 2, 1), (7, .iload_n 1, 1), (8, .imul, 1), (9, .iadd, 1), (10, .iconst 1, 1), (11, .iadd, 1), (12, .iaload, 1), (13, .ireturn, 1)]
set_option maxRecDepth 100000 in
theorem kX9_heavy : dk_ok cX9_heavy iX9_heavy = true := by decide +kernel
def iX9_rank : dk_T := [(0, .aload_n 0, 1), (1, .getfield 7, 3), (4, .bipush 29, 2), (6, .iload_n 1, 1), (7, .iadd, 1), (8, .iaload, 1), (9, .ireturn, 1)]
set_option maxRecDepth 100000 in
theorem kX9_rank : dk_ok cX9_rank iX9_rank = true := by decide +kernel
def iX9_within : dk_T := [(0, .iconst 0, 1), (1, .istore_n 2, 1), (2, .iload_n 2, 1), (3, .aload_n 0, 1), (4, .getfield 7, 3), (7, .iconst 0, 1), (8, .iaload, 1), (9, .if_icmp .ge 20, 3), (12, .aload_n 0, 1), (13, .iload_n 2, 1), (14, .invokevirtual 72, 3), (17, .iload_n 1, 1), (18, .if_icmp .ne 5, 3), (21, .iload_n 2, 1), (22, .ireturn, 1), (23, .iinc 2 1, 3), (26, .goto (-24), 3), (29, .iconst (-1), 1), (30, .ireturn, 1)]
set_option maxRecDepth 100000 in
theorem kX9_within : dk_ok cX9_within iX9_within = true := by decide +kernel
def iX9_addStone_p0 : dk_T := [(0, .aload_n 0, 1), (1, .iload_n 1, 1), (2, .invokestatic 76, 3), (5, .ifCond .ne 7, 3), (8, .iconst 1, 1), (9, .goto 18, 3), (12, .iload_n 2, 1), (13, .iconst 1, 1), (14, .bipush 9, 2), (16, .invokestatic 68, 3), (19, .ifCond .eq 7, 3), (22, .iconst 0, 1), (23, .goto 4, 3), (26, .iconst 2, 1), (27, .invokevirtual 80, 3), (30, .ifCond .eq 5, 3), (33, .iconst 0, 1), (34, .ireturn, 1), (35, .aload_n 0, 1), (36, .iload_n 1, 1), (37, .invokevirtual 83, 3), (40, .ifCond .lt 15, 3), (43, .aload_n 0, 1), (44, .iconst 3, 1), (45, .iconst 2, 1), (46, .aload_n 0, 1), (47, .iload_n 1, 1), (48, .invokevirtual 83, 3), (51, .invokevirtual 86, 3), (54, .ireturn, 1), (55, .aload_n 0, 1), (56, .getfield 7, 3), (59, .iconst 0, 1), (60, .iaload, 1), (61, .bipush 10, 2), (63, .if_icmp .ne 12, 3), (66, .aload_n 0, 1), (67, .iconst 3, 1), (68, .iconst 1, 1), (69, .bipush 10, 2), (71, .invokevirtual 86, 3), (74, .ireturn, 1), (75, .aload_n 0, 1), (76, .aload_n 0, 1), (77, .getfield 7, 3), (80, .invokevirtual 90, 3), (83, .aload_n 0, 1), (84, .getfield 7, 3), (87, .iconst 0, 1), (88, .iaload, 1), (89, .istore_n 3, 1), (90, .aload_n 0, 1), (91, .getfield 7, 3), (94, .iconst 0, 1), (95, .dup2, 1), (96, .iaload, 1), (97, .iconst 1, 1), (98, .iadd, 1), (99, .iastore, 1), (100, .aload_n 0, 1)]
set_option maxRecDepth 100000 in
theorem kX9_addStone_p0 : dk_ok cX9_addStone iX9_addStone_p0 = true := by decide +kernel
def iX9_addStone_p1 : dk_T := [(101, .getfield 7, 3), (104, .bipush 9, 2), (106, .iconst 2, 1), (107, .iload_n 3, 1), (108, .imul, 1), (109, .iadd, 1), (110, .iload_n 1, 1), (111, .iastore, 1), (112, .aload_n 0, 1), (113, .getfield 7, 3), (116, .bipush 9, 2), (118, .iconst 2, 1), (119, .iload_n 3, 1), (120, .imul, 1), (121, .iadd, 1), (122, .iconst 1, 1), (123, .iadd, 1), (124, .iload_n 2, 1), (125, .iastore, 1), (126, .iload_n 3, 1), (127, .ireturn, 1)]
set_option maxRecDepth 100000 in
theorem kX9_addStone_p1 : dk_ok cX9_addStone iX9_addStone_p1 = true := by decide +kernel
def iX9_addOfficer : dk_T := [(0, .aload_n 0, 1), (1, .iload_n 1, 1), (2, .iconst 1, 1), (3, .bipush 9, 2), (5, .invokestatic 68, 3), (8, .ifCond .eq 7, 3), (11, .iconst 0, 1), (12, .goto 4, 3), (15, .iconst 1, 1), (16, .invokevirtual 80, 3), (19, .ifCond .eq 5, 3), (22, .iconst 0, 1), (23, .ireturn, 1), (24, .aload_n 0, 1), (25, .getfield 7, 3), (28, .iconst 1, 1), (29, .iaload, 1), (30, .bipush 6, 2), (32, .if_icmp .ne 12, 3), (35, .aload_n 0, 1), (36, .iconst 2, 1), (37, .iconst 1, 1), (38, .bipush 6, 2), (40, .invokevirtual 86, 3), (43, .ireturn, 1), (44, .aload_n 0, 1), (45, .aload_n 0, 1), (46, .getfield 7, 3), (49, .invokevirtual 90, 3), (52, .aload_n 0, 1), (53, .getfield 7, 3), (56, .bipush 29, 2), (58, .aload_n 0, 1), (59, .getfield 7, 3), (62, .iconst 1, 1), (63, .iaload, 1), (64, .iadd, 1), (65, .iload_n 1, 1), (66, .iastore, 1), (67, .aload_n 0, 1), (68, .getfield 7, 3), (71, .iconst 1, 1), (72, .dup2, 1), (73, .iaload, 1), (74, .iconst 1, 1), (75, .iadd, 1), (76, .iastore, 1), (77, .aload_n 0, 1), (78, .getfield 7, 3), (81, .iconst 1, 1), (82, .iaload, 1), (83, .iconst 1, 1), (84, .isub, 1), (85, .ireturn, 1)]
set_option maxRecDepth 100000 in
theorem kX9_addOfficer : dk_ok cX9_addOfficer iX9_addOfficer = true := by decide +kernel
def iX9_stoneCount : dk_T := [(0, .aload_n 0, 1), (1, .iconst 0, 1), (2, .putfield 39, 3), (5, .aload_n 0, 1), (6, .getfield 7, 3), (9, .iconst 0, 1), (10, .iaload, 1), (11, .ireturn, 1)]
set_option maxRecDepth 100000 in
theorem kX9_stoneCount : dk_ok cX9_stoneCount iX9_stoneCount = true := by decide +kernel
def iX9_cellOf : dk_T := [(0, .aload_n 0, 1), (1, .aload_n 0, 1), (2, .iload_n 1, 1), (3, .invokevirtual 94, 3), (6, .ifCond .eq 7, 3), (9, .iconst 0, 1), (10, .goto 4, 3), (13, .iconst 1, 1), (14, .invokevirtual 80, 3), (17, .ifCond .eq 7, 3), (20, .iconst 0, 1), (21, .goto 8, 3), (24, .aload_n 0, 1), (25, .iload_n 1, 1), (26, .invokevirtual 72, 3), (29, .ireturn, 1)]
set_option maxRecDepth 100000 in
theorem kX9_cellOf : dk_ok cX9_cellOf iX9_cellOf = true := by decide +kernel
def iX9_weightOf : dk_T := [(0, .aload_n 0, 1), (1, .aload_n 0, 1), (2, .iload_n 1, 1), (3, .invokevirtual 94, 3), (6, .ifCond .eq 7, 3), (9, .iconst 0, 1), (10, .goto 4, 3), (13, .iconst 1, 1), (14, .invokevirtual 80, 3), (17, .ifCond .eq 7, 3), (20, .iconst 0, 1), (21, .goto 8, 3), (24, .aload_n 0, 1), (25, .iload_n 1, 1), (26, .invokevirtual 97, 3), (29, .ireturn, 1)]
set_option maxRecDepth 100000 in
theorem kX9_weightOf : dk_ok cX9_weightOf iX9_weightOf = true := by decide +kernel
def iX9_stoneIn : dk_T := [(0, .aload_n 0, 1), (1, .iload_n 1, 1), (2, .invokestatic 76, 3), (5, .ifCond .ne 7, 3), (8, .iconst 1, 1), (9, .goto 16, 3), (12, .aload_n 0, 1), (13, .iload_n 1, 1), (14, .invokevirtual 83, 3), (17, .ifCond .ge 7, 3), (20, .iconst 2, 1), (21, .goto 4, 3), (24, .iconst 0, 1), (25, .invokevirtual 80, 3), (28, .ifCond .eq 7, 3), (31, .iconst 0, 1), (32, .goto 8, 3), (35, .aload_n 0, 1), (36, .iload_n 1, 1), (37, .invokevirtual 83, 3), (40, .ireturn, 1)]
set_option maxRecDepth 100000 in
theorem kX9_stoneIn : dk_ok cX9_stoneIn iX9_stoneIn = true := by decide +kernel
def iX9_officerCount : dk_T := [(0, .aload_n 0, 1), (1, .iconst 0, 1), (2, .putfield 39, 3), (5, .aload_n 0, 1), (6, .getfield 7, 3), (9, .iconst 1, 1), (10, .iaload, 1), (11, .ireturn, 1)]
set_option maxRecDepth 100000 in
theorem kX9_officerCount : dk_ok cX9_officerCount iX9_officerCount = true := by decide +kernel
def iX9_rankOf : dk_T := [(0, .aload_n 0, 1), (1, .aload_n 0, 1), (2, .iload_n 1, 1), (3, .invokevirtual 100, 3), (6, .ifCond .eq 7, 3), (9, .iconst 0, 1), (10, .goto 4, 3), (13, .iconst 1, 1), (14, .invokevirtual 80, 3), (17, .ifCond .eq 7, 3), (20, .iconst 0, 1), (21, .goto 8, 3), (24, .aload_n 0, 1), (25, .iload_n 1, 1), (26, .invokevirtual 103, 3), (29, .ireturn, 1)]
set_option maxRecDepth 100000 in
theorem kX9_rankOf : dk_ok cX9_rankOf iX9_rankOf = true := by decide +kernel
def iX9_petitionsOf : dk_T := [(0, .aload_n 0, 1), (1, .aload_n 0, 1), (2, .iload_n 1, 1), (3, .invokevirtual 100, 3), (6, .ifCond .eq 7, 3), (9, .iconst 0, 1), (10, .goto 4, 3), (13, .iconst 1, 1), (14, .invokevirtual 80, 3), (17, .ifCond .eq 5, 3), (20, .iconst 0, 1), (21, .ireturn, 1), (22, .iconst 0, 1), (23, .istore_n 2, 1), (24, .iconst 0, 1), (25, .istore_n 3, 1), (26, .iload_n 3, 1), (27, .aload_n 0, 1), (28, .getfield 7, 3), (31, .iconst 3, 1), (32, .iaload, 1), (33, .if_icmp .ge 27, 3), (36, .iload_n 2, 1), (37, .aload_n 0, 1), (38, .iload_n 3, 1), (39, .iconst 1, 1), (40, .invokevirtual 106, 3), (43, .iload_n 1, 1), (44, .if_icmp .ne 7, 3), (47, .iconst 1, 1), (48, .goto 4, 3), (51, .iconst 0, 1), (52, .iadd, 1), (53, .istore_n 2, 1), (54, .iinc 3 1, 3), (57, .goto (-31), 3), (60, .iload_n 2, 1), (61, .ireturn, 1)]
set_option maxRecDepth 100000 in
theorem kX9_petitionsOf : dk_ok cX9_petitionsOf iX9_petitionsOf = true := by decide +kernel
def iX9_of : dk_T := [(0, .aload_n 0, 1), (1, .getfield 7, 3), (4, .bipush 35, 2), (6, .bipush 11, 2), (8, .iload_n 1, 1), (9, .imul, 1), (10, .iadd, 1), (11, .iload_n 2, 1), (12, .iadd, 1), (13, .iaload, 1), (14, .ireturn, 1)]
set_option maxRecDepth 100000 in
theorem kX9_of : dk_ok cX9_of iX9_of = true := by decide +kernel
def iX9_lays : dk_T := [(0, .aload_n 0, 1), (1, .getfield 7, 3), (4, .bipush 35, 2), (6, .bipush 11, 2), (8, .iload_n 1, 1), (9, .imul, 1), (10, .iadd, 1), (11, .iload_n 2, 1), (12, .iadd, 1), (13, .iload_n 3, 1), (14, .iastore, 1), (15, .return_, 1)]
set_option maxRecDepth 100000 in
theorem kX9_lays : dk_ok cX9_lays iX9_lays = true := by decide +kernel
def iX9_placeOf : dk_T := [(0, .iconst 0, 1), (1, .istore_n 2, 1), (2, .iload_n 2, 1), (3, .aload_n 0, 1), (4, .getfield 7, 3), (7, .iconst 3, 1), (8, .iaload, 1), (9, .if_icmp .ge 21, 3), (12, .aload_n 0, 1), (13, .iload_n 2, 1), (14, .iconst 0, 1), (15, .invokevirtual 106, 3), (18, .iload_n 1, 1), (19, .if_icmp .ne 5, 3), (22, .iload_n 2, 1), (23, .ireturn, 1), (24, .iinc 2 1, 3), (27, .goto (-25), 3), (30, .iconst (-1), 1), (31, .ireturn, 1)]
set_option maxRecDepth 100000 in
theorem kX9_placeOf : dk_ok cX9_placeOf iX9_placeOf = true := by decide +kernel
def iX9_isNone : dk_T := [(0, .aload_n 0, 1), (1, .aload_n 0, 1), (2, .iload_n 1, 1), (3, .invokevirtual 110, 3), (6, .ifCond .ge 7, 3), (9, .iconst 1, 1), (10, .goto 4, 3), (13, .iconst 0, 1), (14, .invokevirtual 80, 3), (17, .ireturn, 1)]
set_option maxRecDepth 100000 in
theorem kX9_isNone : dk_ok cX9_isNone iX9_isNone = true := by decide +kernel
def iX9_about : dk_T := [(0, .iconst 0, 1), (1, .istore_n 2, 1), (2, .iload_n 2, 1), (3, .aload_n 0, 1), (4, .getfield 7, 3), (7, .iconst 3, 1), (8, .iaload, 1), (9, .if_icmp .ge 21, 3), (12, .aload_n 0, 1), (13, .iload_n 2, 1), (14, .iconst 2, 1), (15, .invokevirtual 106, 3), (18, .iload_n 1, 1), (19, .if_icmp .ne 5, 3), (22, .iload_n 2, 1), (23, .ireturn, 1), (24, .iinc 2 1, 3), (27, .goto (-25), 3), (30, .iconst (-1), 1), (31, .ireturn, 1)]
set_option maxRecDepth 100000 in
theorem kX9_about : dk_ok cX9_about iX9_about = true := by decide +kernel
def iX9_file_p0 : dk_T := [(0, .aload_n 0, 1), (1, .aload_n 0, 1), (2, .iload_n 1, 1), (3, .invokevirtual 100, 3), (6, .ifCond .eq 18, 3), (9, .aload_n 0, 1), (10, .iload_n 2, 1), (11, .invokevirtual 94, 3), (14, .ifCond .eq 10, 3), (17, .iload_n 3, 1), (18, .invokestatic 76, 3), (21, .ifCond .ne 7, 3), (24, .iconst 1, 1), (25, .goto 19, 3), (28, .iload 4, 2), (30, .iconst 0, 1), (31, .bipush 9, 2), (33, .invokestatic 68, 3), (36, .ifCond .eq 7, 3), (39, .iconst 0, 1), (40, .goto 4, 3), (43, .iconst 2, 1), (44, .invokevirtual 80, 3), (47, .ifCond .eq 5, 3), (50, .iconst 0, 1), (51, .ireturn, 1), (52, .aload_n 0, 1), (53, .iload_n 2, 1), (54, .invokevirtual 113, 3), (57, .ifCond .lt 20, 3), (60, .aload_n 0, 1), (61, .iconst 3, 1), (62, .iconst 3, 1), (63, .aload_n 0, 1), (64, .aload_n 0, 1), (65, .iload_n 2, 1), (66, .invokevirtual 113, 3), (69, .iconst 0, 1), (70, .invokevirtual 106, 3), (73, .invokevirtual 86, 3), (76, .ireturn, 1), (77, .aload_n 0, 1), (78, .iload_n 2, 1), (79, .invokevirtual 72, 3), (82, .iload_n 3, 1), (83, .if_icmp .ne 11, 3), (86, .aload_n 0, 1), (87, .iconst 3, 1), (88, .iconst 4, 1), (89, .iload_n 3, 1), (90, .invokevirtual 86, 3), (93, .ireturn, 1), (94, .aload_n 0, 1), (95, .getfield 7, 3), (98, .iconst 3, 1), (99, .iaload, 1), (100, .bipush 8, 2), (102, .if_icmp .ne 12, 3), (105, .aload_n 0, 1), (106, .iconst 3, 1)]
set_option maxRecDepth 100000 in
theorem kX9_file_p0 : dk_ok cX9_file iX9_file_p0 = true := by decide +kernel
def iX9_file_p1 : dk_T := [(107, .iconst 1, 1), (108, .bipush 8, 2), (110, .invokevirtual 86, 3), (113, .ireturn, 1), (114, .aload_n 0, 1), (115, .aload_n 0, 1), (116, .getfield 7, 3), (119, .invokevirtual 90, 3), (122, .aload_n 0, 1), (123, .getfield 7, 3), (126, .iconst 3, 1), (127, .iaload, 1), (128, .istore 5, 2), (130, .aload_n 0, 1), (131, .getfield 7, 3), (134, .iconst 3, 1), (135, .dup2, 1), (136, .iaload, 1), (137, .iconst 1, 1), (138, .iadd, 1), (139, .iastore, 1), (140, .iconst 0, 1), (141, .istore 6, 2), (143, .iload 6, 2), (145, .bipush 11, 2), (147, .if_icmp .ge 18, 3), (150, .aload_n 0, 1), (151, .iload 5, 2), (153, .iload 6, 2), (155, .iconst 0, 1), (156, .invokevirtual 116, 3), (159, .iinc 6 1, 3), (162, .goto (-19), 3), (165, .aload_n 0, 1), (166, .iload 5, 2), (168, .iconst 0, 1), (169, .aload_n 0, 1), (170, .getfield 7, 3), (173, .iconst 4, 1), (174, .iaload, 1), (175, .invokevirtual 116, 3), (178, .aload_n 0, 1), (179, .iload 5, 2), (181, .iconst 1, 1), (182, .iload_n 1, 1), (183, .invokevirtual 116, 3), (186, .aload_n 0, 1), (187, .iload 5, 2), (189, .iconst 2, 1), (190, .iload_n 2, 1), (191, .invokevirtual 116, 3), (194, .aload_n 0, 1), (195, .iload 5, 2), (197, .iconst 3, 1), (198, .iload_n 3, 1), (199, .invokevirtual 116, 3), (202, .aload_n 0, 1), (203, .iload 5, 2), (205, .iconst 4, 1), (206, .iload 4, 2)]
set_option maxRecDepth 100000 in
theorem kX9_file_p1 : dk_ok cX9_file iX9_file_p1 = true := by decide +kernel
def iX9_file_p2 : dk_T := [(208, .invokevirtual 116, 3), (211, .aload_n 0, 1), (212, .getfield 7, 3), (215, .iconst 4, 1), (216, .dup2, 1), (217, .iaload, 1), (218, .iconst 1, 1), (219, .iadd, 1), (220, .iastore, 1), (221, .aload_n 0, 1), (222, .getfield 7, 3), (225, .iconst 4, 1), (226, .iaload, 1), (227, .iconst 1, 1), (228, .isub, 1), (229, .ireturn, 1)]
set_option maxRecDepth 100000 in
theorem kX9_file_p2 : dk_ok cX9_file iX9_file_p2 = true := by decide +kernel
def iX9_bits : dk_T := [(0, .iconst 0, 1), (1, .istore_n 1, 1), (2, .iconst 0, 1), (3, .istore_n 2, 1), (4, .iload_n 2, 1), (5, .bipush 6, 2), (7, .if_icmp .ge 17, 3), (10, .iload_n 1, 1), (11, .iload_n 0, 1), (12, .iload_n 2, 1), (13, .ishr, 1), (14, .iconst 1, 1), (15, .iand, 1), (16, .iadd, 1), (17, .istore_n 1, 1), (18, .iinc 2 1, 3), (21, .goto (-17), 3), (24, .iload_n 1, 1), (25, .ireturn, 1)]
set_option maxRecDepth 100000 in
theorem kX9_bits : dk_ok cX9_bits iX9_bits = true := by decide +kernel
def iX9_votes : dk_T := [(0, .aload_n 0, 1), (1, .iload_n 1, 1), (2, .iconst 5, 1), (3, .invokevirtual 106, 3), (6, .invokestatic 120, 3), (9, .aload_n 0, 1), (10, .iload_n 1, 1), (11, .bipush 6, 2), (13, .invokevirtual 106, 3), (16, .invokestatic 120, 3), (19, .iadd, 1), (20, .ireturn, 1)]
set_option maxRecDepth 100000 in
theorem kX9_votes : dk_ok cX9_votes iX9_votes = true := by decide +kernel
def iX9_vote_p0 : dk_T := [(0, .aload_n 0, 1), (1, .iload_n 2, 1), (2, .invokevirtual 110, 3), (5, .istore 4, 2), (7, .aload_n 0, 1), (8, .aload_n 0, 1), (9, .iload_n 1, 1), (10, .invokevirtual 100, 3), (13, .ifCond .ne 7, 3), (16, .iconst 1, 1), (17, .goto 13, 3), (20, .iload 4, 2), (22, .ifCond .ge 7, 3), (25, .iconst 2, 1), (26, .goto 4, 3), (29, .iconst 0, 1), (30, .invokevirtual 80, 3), (33, .ifCond .eq 5, 3), (36, .iconst 0, 1), (37, .ireturn, 1), (38, .aload_n 0, 1), (39, .iload 4, 2), (41, .iconst 1, 1), (42, .invokevirtual 106, 3), (45, .iload_n 1, 1), (46, .if_icmp .ne 12, 3), (49, .aload_n 0, 1), (50, .iconst 3, 1), (51, .bipush 6, 2), (53, .iload_n 1, 1), (54, .invokevirtual 86, 3), (57, .ireturn, 1), (58, .aload_n 0, 1), (59, .iload 4, 2), (61, .iconst 5, 1), (62, .invokevirtual 106, 3), (65, .iload_n 1, 1), (66, .ishr, 1), (67, .iconst 1, 1), (68, .iand, 1), (69, .iconst 1, 1), (70, .if_icmp .ne 11, 3), (73, .aload_n 0, 1), (74, .iconst 3, 1), (75, .iconst 5, 1), (76, .iconst 1, 1), (77, .invokevirtual 86, 3), (80, .ireturn, 1), (81, .aload_n 0, 1), (82, .iload 4, 2), (84, .bipush 6, 2), (86, .invokevirtual 106, 3), (89, .iload_n 1, 1), (90, .ishr, 1), (91, .iconst 1, 1), (92, .iand, 1), (93, .iconst 1, 1), (94, .if_icmp .ne 11, 3), (97, .aload_n 0, 1), (98, .iconst 3, 1)]
set_option maxRecDepth 100000 in
theorem kX9_vote_p0 : dk_ok cX9_vote iX9_vote_p0 = true := by decide +kernel
def iX9_vote_p1 : dk_T := [(99, .iconst 5, 1), (100, .iconst 0, 1), (101, .invokevirtual 86, 3), (104, .ireturn, 1), (105, .aload_n 0, 1), (106, .aload_n 0, 1), (107, .getfield 7, 3), (110, .invokevirtual 90, 3), (113, .iload_n 3, 1), (114, .ifCond .eq 7, 3), (117, .iconst 5, 1), (118, .goto 5, 3), (121, .bipush 6, 2), (123, .istore 5, 2), (125, .aload_n 0, 1), (126, .iload 4, 2), (128, .iload 5, 2), (130, .aload_n 0, 1), (131, .iload 4, 2), (133, .iload 5, 2), (135, .invokevirtual 106, 3), (138, .iconst 1, 1), (139, .iload_n 1, 1), (140, .ishl, 1), (141, .ior, 1), (142, .invokevirtual 116, 3), (145, .aload_n 0, 1), (146, .iload 4, 2), (148, .invokevirtual 123, 3), (151, .ireturn, 1)]
set_option maxRecDepth 100000 in
theorem kX9_vote_p1 : dk_ok cX9_vote iX9_vote_p1 = true := by decide +kernel
def iX9_isRuling : dk_T := [(0, .iload_n 1, 1), (1, .iconst 0, 1), (2, .aload_n 0, 1), (3, .getfield 7, 3), (6, .iconst 5, 1), (7, .iaload, 1), (8, .iconst 1, 1), (9, .isub, 1), (10, .invokestatic 68, 3), (13, .ireturn, 1)]
set_option maxRecDepth 100000 in
theorem kX9_isRuling : dk_ok cX9_isRuling iX9_isRuling = true := by decide +kernel
def iX9_cite_p0 : dk_T := [(0, .aload_n 0, 1), (1, .iload_n 1, 1), (2, .invokevirtual 110, 3), (5, .istore_n 3, 1), (6, .aload_n 0, 1), (7, .iload_n 3, 1), (8, .ifCond .lt 11, 3), (11, .aload_n 0, 1), (12, .iload_n 2, 1), (13, .invokevirtual 126, 3), (16, .ifCond .ne 7, 3), (19, .iconst 1, 1), (20, .goto 4, 3), (23, .iconst 0, 1), (24, .invokevirtual 80, 3), (27, .ifCond .eq 5, 3), (30, .iconst 0, 1), (31, .ireturn, 1), (32, .aload_n 0, 1), (33, .iload_n 3, 1), (34, .bipush 7, 2), (36, .invokevirtual 106, 3), (39, .istore 4, 2), (41, .iconst 0, 1), (42, .istore 5, 2), (44, .iload 5, 2), (46, .iload 4, 2), (48, .if_icmp .ge 32, 3), (51, .aload_n 0, 1), (52, .iload_n 3, 1), (53, .bipush 8, 2), (55, .iload 5, 2), (57, .iadd, 1), (58, .invokevirtual 106, 3), (61, .iload_n 2, 1), (62, .if_icmp .ne 12, 3), (65, .aload_n 0, 1), (66, .iconst 2, 1), (67, .bipush 7, 2), (69, .iload_n 2, 1), (70, .invokevirtual 86, 3), (73, .ireturn, 1), (74, .iinc 5 1, 3), (77, .goto (-33), 3), (80, .iload 4, 2), (82, .iconst 3, 1), (83, .if_icmp .ne 11, 3), (86, .aload_n 0, 1), (87, .iconst 2, 1), (88, .iconst 1, 1), (89, .iconst 3, 1), (90, .invokevirtual 86, 3), (93, .ireturn, 1), (94, .aload_n 0, 1), (95, .aload_n 0, 1), (96, .getfield 7, 3), (99, .invokevirtual 90, 3), (102, .aload_n 0, 1), (103, .iload_n 3, 1), (104, .bipush 8, 2)]
set_option maxRecDepth 100000 in
theorem kX9_cite_p0 : dk_ok cX9_cite iX9_cite_p0 = true := by decide +kernel
def iX9_cite_p1 : dk_T := [(106, .iload 4, 2), (108, .iadd, 1), (109, .iload_n 2, 1), (110, .invokevirtual 116, 3), (113, .aload_n 0, 1), (114, .iload_n 3, 1), (115, .bipush 7, 2), (117, .iload 4, 2), (119, .iconst 1, 1), (120, .iadd, 1), (121, .invokevirtual 116, 3), (124, .iload 4, 2), (126, .iconst 1, 1), (127, .iadd, 1), (128, .ireturn, 1)]
set_option maxRecDepth 100000 in
theorem kX9_cite_p1 : dk_ok cX9_cite iX9_cite_p1 = true := by decide +kernel
def iX9_drops : dk_T := [(0, .aload_n 0, 1), (1, .getfield 7, 3), (4, .iconst 3, 1), (5, .dup2, 1), (6, .iaload, 1), (7, .iconst 1, 1), (8, .isub, 1), (9, .iastore, 1), (10, .bipush 35, 2), (12, .bipush 11, 2), (14, .iload_n 1, 1), (15, .imul, 1), (16, .iadd, 1), (17, .istore_n 2, 1), (18, .iload_n 2, 1), (19, .bipush 35, 2), (21, .bipush 11, 2), (23, .aload_n 0, 1), (24, .getfield 7, 3), (27, .iconst 3, 1), (28, .iaload, 1), (29, .imul, 1), (30, .iadd, 1), (31, .if_icmp .ge 24, 3), (34, .aload_n 0, 1), (35, .getfield 7, 3), (38, .iload_n 2, 1), (39, .aload_n 0, 1), (40, .getfield 7, 3), (43, .iload_n 2, 1), (44, .bipush 11, 2), (46, .iadd, 1), (47, .iaload, 1), (48, .iastore, 1), (49, .iinc 2 1, 3), (52, .goto (-34), 3), (55, .iconst 0, 1), (56, .istore_n 2, 1), (57, .iload_n 2, 1), (58, .bipush 11, 2), (60, .if_icmp .ge 21, 3), (63, .aload_n 0, 1), (64, .aload_n 0, 1), (65, .getfield 7, 3), (68, .iconst 3, 1), (69, .iaload, 1), (70, .iload_n 2, 1), (71, .iconst 0, 1), (72, .invokevirtual 116, 3), (75, .iinc 2 1, 3), (78, .goto (-21), 3), (81, .return_, 1)]
set_option maxRecDepth 100000 in
theorem kX9_drops : dk_ok cX9_drops iX9_drops = true := by decide +kernel
def iX9_veto : dk_T := [(0, .aload_n 0, 1), (1, .iload_n 2, 1), (2, .invokevirtual 110, 3), (5, .istore_n 3, 1), (6, .aload_n 0, 1), (7, .aload_n 0, 1), (8, .iload_n 1, 1), (9, .invokevirtual 100, 3), (12, .ifCond .ne 7, 3), (15, .iconst 1, 1), (16, .goto 12, 3), (19, .iload_n 3, 1), (20, .ifCond .ge 7, 3), (23, .iconst 2, 1), (24, .goto 4, 3), (27, .iconst 0, 1), (28, .invokevirtual 80, 3), (31, .ifCond .eq 5, 3), (34, .iconst 0, 1), (35, .ireturn, 1), (36, .aload_n 0, 1), (37, .aload_n 0, 1), (38, .iload_n 3, 1), (39, .iconst 1, 1), (40, .invokevirtual 106, 3), (43, .invokevirtual 103, 3), (46, .istore 4, 2), (48, .aload_n 0, 1), (49, .iload_n 1, 1), (50, .invokevirtual 103, 3), (53, .iload 4, 2), (55, .if_icmp .gt 13, 3), (58, .aload_n 0, 1), (59, .iconst 3, 1), (60, .bipush 8, 2), (62, .iload 4, 2), (64, .invokevirtual 86, 3), (67, .ireturn, 1), (68, .aload_n 0, 1), (69, .aload_n 0, 1), (70, .getfield 7, 3), (73, .invokevirtual 90, 3), (76, .aload_n 0, 1), (77, .iload_n 3, 1), (78, .invokevirtual 129, 3), (81, .aload_n 0, 1), (82, .getfield 7, 3), (85, .bipush 6, 2), (87, .dup2, 1), (88, .iaload, 1), (89, .iconst 1, 1), (90, .iadd, 1), (91, .iastore, 1), (92, .aload_n 0, 1), (93, .getfield 7, 3), (96, .iconst 3, 1), (97, .iaload, 1), (98, .ireturn, 1)]
set_option maxRecDepth 100000 in
theorem kX9_veto : dk_ok cX9_veto iX9_veto = true := by decide +kernel
def iX9_withdraw : dk_T := [(0, .aload_n 0, 1), (1, .iload_n 1, 1), (2, .invokevirtual 133, 3), (5, .ifCond .eq 5, 3), (8, .iconst 0, 1), (9, .ireturn, 1), (10, .aload_n 0, 1), (11, .aload_n 0, 1), (12, .getfield 7, 3), (15, .invokevirtual 90, 3), (18, .aload_n 0, 1), (19, .aload_n 0, 1), (20, .iload_n 1, 1), (21, .invokevirtual 110, 3), (24, .invokevirtual 129, 3), (27, .aload_n 0, 1), (28, .getfield 7, 3), (31, .bipush 7, 2), (33, .dup2, 1), (34, .iaload, 1), (35, .iconst 1, 1), (36, .iadd, 1), (37, .iastore, 1), (38, .aload_n 0, 1), (39, .getfield 7, 3), (42, .iconst 3, 1), (43, .iaload, 1), (44, .ireturn, 1)]
set_option maxRecDepth 100000 in
theorem kX9_withdraw : dk_ok cX9_withdraw iX9_withdraw = true := by decide +kernel
def iX9_pendingCount : dk_T := [(0, .aload_n 0, 1), (1, .iconst 0, 1), (2, .putfield 39, 3), (5, .aload_n 0, 1), (6, .getfield 7, 3), (9, .iconst 3, 1), (10, .iaload, 1), (11, .ireturn, 1)]
set_option maxRecDepth 100000 in
theorem kX9_pendingCount : dk_ok cX9_pendingCount iX9_pendingCount = true := by decide +kernel
def iX9_isAhead : dk_T := [(0, .aload_n 0, 1), (1, .aload_n 0, 1), (2, .iload_n 1, 1), (3, .iconst 1, 1), (4, .invokevirtual 106, 3), (7, .invokevirtual 103, 3), (10, .aload_n 0, 1), (11, .aload_n 0, 1), (12, .iload_n 2, 1), (13, .iconst 1, 1), (14, .invokevirtual 106, 3), (17, .invokevirtual 103, 3), (20, .isub, 1), (21, .istore_n 3, 1), (22, .iload_n 3, 1), (23, .ifCond .eq 13, 3), (26, .iload_n 3, 1), (27, .ifCond .le 7, 3), (30, .iconst 1, 1), (31, .goto 4, 3), (34, .iconst 0, 1), (35, .ireturn, 1), (36, .aload_n 0, 1), (37, .iload_n 1, 1), (38, .iconst 4, 1), (39, .invokevirtual 106, 3), (42, .aload_n 0, 1), (43, .iload_n 2, 1), (44, .iconst 4, 1), (45, .invokevirtual 106, 3), (48, .isub, 1), (49, .istore 4, 2), (51, .iload 4, 2), (53, .ifCond .gt 23, 3), (56, .iload 4, 2), (58, .ifCond .ne 22, 3), (61, .aload_n 0, 1), (62, .iload_n 1, 1), (63, .iconst 0, 1), (64, .invokevirtual 106, 3), (67, .aload_n 0, 1), (68, .iload_n 2, 1), (69, .iconst 0, 1), (70, .invokevirtual 106, 3), (73, .if_icmp .ge 7, 3), (76, .iconst 1, 1), (77, .goto 4, 3), (80, .iconst 0, 1), (81, .ireturn, 1)]
set_option maxRecDepth 100000 in
theorem kX9_isAhead : dk_ok cX9_isAhead iX9_isAhead = true := by decide +kernel
def iX9_ahead : dk_T := [(0, .iconst 0, 1), (1, .istore_n 2, 1), (2, .iconst 0, 1), (3, .istore_n 3, 1), (4, .iload_n 3, 1), (5, .aload_n 0, 1), (6, .getfield 7, 3), (9, .iconst 3, 1), (10, .iaload, 1), (11, .if_icmp .ge 26, 3), (14, .iload_n 2, 1), (15, .aload_n 0, 1), (16, .iload_n 3, 1), (17, .iload_n 1, 1), (18, .invokevirtual 136, 3), (21, .ifCond .eq 7, 3), (24, .iconst 1, 1), (25, .goto 4, 3), (28, .iconst 0, 1), (29, .iadd, 1), (30, .istore_n 2, 1), (31, .iinc 3 1, 3), (34, .goto (-30), 3), (37, .iload_n 2, 1), (38, .ireturn, 1)]
set_option maxRecDepth 100000 in
theorem kX9_ahead : dk_ok cX9_ahead iX9_ahead = true := by decide +kernel
def iX9_queued : dk_T := [(0, .iconst 0, 1), (1, .istore_n 2, 1), (2, .iload_n 2, 1), (3, .aload_n 0, 1), (4, .getfield 7, 3), (7, .iconst 3, 1), (8, .iaload, 1), (9, .if_icmp .ge 20, 3), (12, .aload_n 0, 1), (13, .iload_n 2, 1), (14, .invokevirtual 140, 3), (17, .iload_n 1, 1), (18, .if_icmp .ne 5, 3), (21, .iload_n 2, 1), (22, .ireturn, 1), (23, .iinc 2 1, 3), (26, .goto (-24), 3), (29, .iconst (-1), 1), (30, .ireturn, 1)]
set_option maxRecDepth 100000 in
theorem kX9_queued : dk_ok cX9_queued iX9_queued = true := by decide +kernel
def iX9_petitionAt : dk_T := [(0, .aload_n 0, 1), (1, .aload_n 0, 1), (2, .iload_n 1, 1), (3, .invokevirtual 143, 3), (6, .ifCond .ge 7, 3), (9, .iconst 1, 1), (10, .goto 4, 3), (13, .iconst 0, 1), (14, .invokevirtual 80, 3), (17, .ifCond .eq 7, 3), (20, .iconst 0, 1), (21, .goto 13, 3), (24, .aload_n 0, 1), (25, .aload_n 0, 1), (26, .iload_n 1, 1), (27, .invokevirtual 143, 3), (30, .iconst 0, 1), (31, .invokevirtual 106, 3), (34, .ireturn, 1)]
set_option maxRecDepth 100000 in
theorem kX9_petitionAt : dk_ok cX9_petitionAt iX9_petitionAt = true := by decide +kernel
def iX9_positionOf : dk_T := [(0, .aload_n 0, 1), (1, .iload_n 1, 1), (2, .invokevirtual 133, 3), (5, .ifCond .eq 7, 3), (8, .iconst 0, 1), (9, .goto 12, 3), (12, .aload_n 0, 1), (13, .aload_n 0, 1), (14, .iload_n 1, 1), (15, .invokevirtual 110, 3), (18, .invokevirtual 140, 3), (21, .ireturn, 1)]
set_option maxRecDepth 100000 in
theorem kX9_positionOf : dk_ok cX9_positionOf iX9_positionOf = true := by decide +kernel
def iX9_stoneOf : dk_T := [(0, .aload_n 0, 1), (1, .iload_n 1, 1), (2, .invokevirtual 133, 3), (5, .ifCond .eq 7, 3), (8, .iconst 0, 1), (9, .goto 13, 3), (12, .aload_n 0, 1), (13, .aload_n 0, 1), (14, .iload_n 1, 1), (15, .invokevirtual 110, 3), (18, .iconst 2, 1), (19, .invokevirtual 106, 3), (22, .ireturn, 1)]
set_option maxRecDepth 100000 in
theorem kX9_stoneOf : dk_ok cX9_stoneOf iX9_stoneOf = true := by decide +kernel
def iX9_targetOf : dk_T := [(0, .aload_n 0, 1), (1, .iload_n 1, 1), (2, .invokevirtual 133, 3), (5, .ifCond .eq 7, 3), (8, .iconst 0, 1), (9, .goto 13, 3), (12, .aload_n 0, 1), (13, .aload_n 0, 1), (14, .iload_n 1, 1), (15, .invokevirtual 110, 3), (18, .iconst 3, 1), (19, .invokevirtual 106, 3), (22, .ireturn, 1)]
set_option maxRecDepth 100000 in
theorem kX9_targetOf : dk_ok cX9_targetOf iX9_targetOf = true := by decide +kernel
def iX9_votesFor : dk_T := [(0, .aload_n 0, 1), (1, .iload_n 1, 1), (2, .invokevirtual 133, 3), (5, .ifCond .eq 7, 3), (8, .iconst 0, 1), (9, .goto 16, 3), (12, .aload_n 0, 1), (13, .aload_n 0, 1), (14, .iload_n 1, 1), (15, .invokevirtual 110, 3), (18, .iconst 5, 1), (19, .invokevirtual 106, 3), (22, .invokestatic 120, 3), (25, .ireturn, 1)]
set_option maxRecDepth 100000 in
theorem kX9_votesFor : dk_ok cX9_votesFor iX9_votesFor = true := by decide +kernel
def iX9_votesAgainst : dk_T := [(0, .aload_n 0, 1), (1, .iload_n 1, 1), (2, .invokevirtual 133, 3), (5, .ifCond .eq 7, 3), (8, .iconst 0, 1), (9, .goto 17, 3), (12, .aload_n 0, 1), (13, .aload_n 0, 1), (14, .iload_n 1, 1), (15, .invokevirtual 110, 3), (18, .bipush 6, 2), (20, .invokevirtual 106, 3), (23, .invokestatic 120, 3), (26, .ireturn, 1)]
set_option maxRecDepth 100000 in
theorem kX9_votesAgainst : dk_ok cX9_votesAgainst iX9_votesAgainst = true := by decide +kernel
def iX9_wins : dk_T := [(0, .aload_n 0, 1), (1, .iload_n 1, 1), (2, .iconst 5, 1), (3, .invokevirtual 106, 3), (6, .invokestatic 120, 3), (9, .aload_n 0, 1), (10, .iload_n 1, 1), (11, .bipush 6, 2), (13, .invokevirtual 106, 3), (16, .invokestatic 120, 3), (19, .isub, 1), (20, .istore_n 2, 1), (21, .iconst 0, 1), (22, .istore_n 3, 1), (23, .iload_n 3, 1), (24, .aload_n 0, 1), (25, .iload_n 1, 1), (26, .bipush 7, 2), (28, .invokevirtual 106, 3), (31, .if_icmp .ge 35, 3), (34, .iload_n 2, 1), (35, .aload_n 0, 1), (36, .aload_n 0, 1), (37, .iload_n 1, 1), (38, .bipush 8, 2), (40, .iload_n 3, 1), (41, .iadd, 1), (42, .invokevirtual 106, 3), (45, .iconst 0, 1), (46, .invokevirtual 146, 3), (49, .iconst 1, 1), (50, .if_icmp .ne 7, 3), (53, .iconst 1, 1), (54, .goto 4, 3), (57, .iconst (-1), 1), (58, .iadd, 1), (59, .istore_n 2, 1), (60, .iinc 3 1, 3), (63, .goto (-40), 3), (66, .iload_n 2, 1), (67, .ifCond .le 7, 3), (70, .iconst 1, 1), (71, .goto 4, 3), (74, .iconst 0, 1), (75, .ireturn, 1)]
set_option maxRecDepth 100000 in
theorem kX9_wins : dk_ok cX9_wins iX9_wins = true := by decide +kernel
def iX9_wouldBeGranted : dk_T := [(0, .aload_n 0, 1), (1, .iload_n 1, 1), (2, .invokevirtual 133, 3), (5, .ifCond .ne 19, 3), (8, .aload_n 0, 1), (9, .aload_n 0, 1), (10, .iload_n 1, 1), (11, .invokevirtual 110, 3), (14, .invokevirtual 149, 3), (17, .ifCond .eq 7, 3), (20, .iconst 1, 1), (21, .goto 4, 3), (24, .iconst 0, 1), (25, .ireturn, 1)]
set_option maxRecDepth 100000 in
theorem kX9_wouldBeGranted : dk_ok cX9_wouldBeGranted iX9_wouldBeGranted = true := by decide +kernel
def iX9_by : dk_T := [(0, .aload_n 0, 1), (1, .getfield 7, 3), (4, .bipush 123, 2), (6, .bipush 6, 2), (8, .iload_n 1, 1), (9, .imul, 1), (10, .iadd, 1), (11, .iload_n 2, 1), (12, .iadd, 1), (13, .iaload, 1), (14, .ireturn, 1)]
set_option maxRecDepth 100000 in
theorem kX9_by : dk_ok cX9_by iX9_by = true := by decide +kernel
def iX9_setQuorum : dk_T := [(0, .aload_n 0, 1), (1, .iload_n 1, 1), (2, .iconst 1, 1), (3, .iconst 5, 1), (4, .invokestatic 68, 3), (7, .ifCond .eq 7, 3), (10, .iconst 0, 1), (11, .goto 4, 3), (14, .iconst 1, 1), (15, .invokevirtual 80, 3), (18, .ifCond .eq 5, 3), (21, .iconst 0, 1), (22, .ireturn, 1), (23, .aload_n 0, 1), (24, .getfield 7, 3), (27, .iconst 2, 1), (28, .iaload, 1), (29, .istore_n 2, 1), (30, .iload_n 2, 1), (31, .iload_n 1, 1), (32, .if_icmp .ne 12, 3), (35, .aload_n 0, 1), (36, .iconst 2, 1), (37, .bipush 11, 2), (39, .iload_n 1, 1), (40, .invokevirtual 86, 3), (43, .ireturn, 1), (44, .aload_n 0, 1), (45, .aload_n 0, 1), (46, .getfield 7, 3), (49, .invokevirtual 90, 3), (52, .aload_n 0, 1), (53, .getfield 7, 3), (56, .iconst 2, 1), (57, .iload_n 1, 1), (58, .iastore, 1), (59, .iload_n 2, 1), (60, .ireturn, 1)]
set_option maxRecDepth 100000 in
theorem kX9_setQuorum : dk_ok cX9_setQuorum iX9_setQuorum = true := by decide +kernel
def iX9_decide_p0 : dk_T := [(0, .aload_n 0, 1), (1, .iconst 0, 1), (2, .invokevirtual 143, 3), (5, .istore_n 1, 1), (6, .iload_n 1, 1), (7, .ifCond .ge 17, 3), (10, .aload_n 0, 1), (11, .iconst 1, 1), (12, .bipush 9, 2), (14, .aload_n 0, 1), (15, .getfield 7, 3), (18, .iconst 5, 1), (19, .iaload, 1), (20, .invokevirtual 86, 3), (23, .ireturn, 1), (24, .aload_n 0, 1), (25, .iload_n 1, 1), (26, .invokevirtual 123, 3), (29, .aload_n 0, 1), (30, .getfield 7, 3), (33, .iconst 2, 1), (34, .iaload, 1), (35, .if_icmp .ge 16, 3), (38, .aload_n 0, 1), (39, .iconst 1, 1), (40, .bipush 10, 2), (42, .aload_n 0, 1), (43, .iload_n 1, 1), (44, .invokevirtual 123, 3), (47, .invokevirtual 86, 3), (50, .ireturn, 1), (51, .aload_n 0, 1), (52, .getfield 7, 3), (55, .iconst 5, 1), (56, .iaload, 1), (57, .bipush 16, 2), (59, .if_icmp .ne 12, 3), (62, .aload_n 0, 1), (63, .iconst 1, 1), (64, .iconst 1, 1), (65, .bipush 16, 2), (67, .invokevirtual 86, 3), (70, .ireturn, 1), (71, .aload_n 0, 1), (72, .aload_n 0, 1), (73, .getfield 7, 3), (76, .invokevirtual 90, 3), (79, .aload_n 0, 1), (80, .iload_n 1, 1), (81, .iconst 2, 1), (82, .invokevirtual 106, 3), (85, .istore_n 2, 1), (86, .aload_n 0, 1), (87, .iload_n 1, 1), (88, .invokevirtual 149, 3), (91, .istore_n 3, 1), (92, .iload_n 3, 1), (93, .ifCond .eq 20, 3), (96, .aload_n 0, 1), (97, .aload_n 0, 1)]
set_option maxRecDepth 100000 in
theorem kX9_decide_p0 : dk_ok cX9_decide iX9_decide_p0 = true := by decide +kernel
def iX9_decide_p1 : dk_T := [(98, .iload_n 1, 1), (99, .iconst 3, 1), (100, .invokevirtual 106, 3), (103, .invokevirtual 83, 3), (106, .ifCond .ge 7, 3), (109, .iconst 1, 1), (110, .goto 4, 3), (113, .iconst 0, 1), (114, .istore 4, 2), (116, .bipush 123, 2), (118, .bipush 6, 2), (120, .aload_n 0, 1), (121, .getfield 7, 3), (124, .iconst 5, 1), (125, .iaload, 1), (126, .imul, 1), (127, .iadd, 1), (128, .istore 5, 2), (130, .aload_n 0, 1), (131, .getfield 7, 3), (134, .iload 5, 2), (136, .iconst 0, 1), (137, .iadd, 1), (138, .iload_n 3, 1), (139, .ifCond .eq 7, 3), (142, .iconst 1, 1), (143, .goto 4, 3), (146, .iconst 0, 1), (147, .iastore, 1), (148, .aload_n 0, 1), (149, .getfield 7, 3), (152, .iload 5, 2), (154, .iconst 1, 1), (155, .iadd, 1), (156, .iload 4, 2), (158, .ifCond .eq 7, 3), (161, .iconst 1, 1), (162, .goto 4, 3), (165, .iconst 0, 1), (166, .iastore, 1), (167, .iconst 0, 1), (168, .istore 6, 2), (170, .iload 6, 2), (172, .iconst 4, 1), (173, .if_icmp .ge 31, 3), (176, .aload_n 0, 1), (177, .getfield 7, 3), (180, .iload 5, 2), (182, .iconst 2, 1), (183, .iadd, 1), (184, .iload 6, 2), (186, .iadd, 1), (187, .aload_n 0, 1), (188, .iload_n 1, 1), (189, .bipush 7, 2), (191, .iload 6, 2), (193, .iadd, 1), (194, .invokevirtual 106, 3), (197, .iastore, 1), (198, .iinc 6 1, 3)]
set_option maxRecDepth 100000 in
theorem kX9_decide_p1 : dk_ok cX9_decide iX9_decide_p1 = true := by decide +kernel
def iX9_decide_p2 : dk_T := [(201, .goto (-31), 3), (204, .iload 4, 2), (206, .ifCond .eq 35, 3), (209, .aload_n 0, 1), (210, .getfield 7, 3), (213, .bipush 9, 2), (215, .iconst 2, 1), (216, .iload_n 2, 1), (217, .imul, 1), (218, .iadd, 1), (219, .aload_n 0, 1), (220, .iload_n 1, 1), (221, .iconst 3, 1), (222, .invokevirtual 106, 3), (225, .iastore, 1), (226, .aload_n 0, 1), (227, .getfield 7, 3), (230, .bipush 8, 2), (232, .dup2, 1), (233, .iaload, 1), (234, .aload_n 0, 1), (235, .iload_n 2, 1), (236, .invokevirtual 97, 3), (239, .iadd, 1), (240, .iastore, 1), (241, .aload_n 0, 1), (242, .iload_n 1, 1), (243, .invokevirtual 129, 3), (246, .aload_n 0, 1), (247, .getfield 7, 3), (250, .iconst 5, 1), (251, .dup2, 1), (252, .iaload, 1), (253, .iconst 1, 1), (254, .iadd, 1), (255, .iastore, 1), (256, .aload_n 0, 1), (257, .getfield 7, 3), (260, .iconst 5, 1), (261, .iaload, 1), (262, .iconst 1, 1), (263, .isub, 1), (264, .ireturn, 1)]
set_option maxRecDepth 100000 in
theorem kX9_decide_p2 : dk_ok cX9_decide iX9_decide_p2 = true := by decide +kernel
def iX9_quorum : dk_T := [(0, .aload_n 0, 1), (1, .iconst 0, 1), (2, .putfield 39, 3), (5, .aload_n 0, 1), (6, .getfield 7, 3), (9, .iconst 2, 1), (10, .iaload, 1), (11, .ireturn, 1)]
set_option maxRecDepth 100000 in
theorem kX9_quorum : dk_ok cX9_quorum iX9_quorum = true := by decide +kernel
def iX9_rulingCount : dk_T := [(0, .aload_n 0, 1), (1, .iconst 0, 1), (2, .putfield 39, 3), (5, .aload_n 0, 1), (6, .getfield 7, 3), (9, .iconst 5, 1), (10, .iaload, 1), (11, .ireturn, 1)]
set_option maxRecDepth 100000 in
theorem kX9_rulingCount : dk_ok cX9_rulingCount iX9_rulingCount = true := by decide +kernel
def iX9_isUnruled : dk_T := [(0, .aload_n 0, 1), (1, .aload_n 0, 1), (2, .iload_n 1, 1), (3, .invokevirtual 126, 3), (6, .ifCond .eq 7, 3), (9, .iconst 0, 1), (10, .goto 4, 3), (13, .iconst 1, 1), (14, .invokevirtual 80, 3), (17, .ireturn, 1)]
set_option maxRecDepth 100000 in
theorem kX9_isUnruled : dk_ok cX9_isUnruled iX9_isUnruled = true := by decide +kernel
def iX9_isGranted : dk_T := [(0, .aload_n 0, 1), (1, .iload_n 1, 1), (2, .invokevirtual 152, 3), (5, .ifCond .ne 17, 3), (8, .aload_n 0, 1), (9, .iload_n 1, 1), (10, .iconst 0, 1), (11, .invokevirtual 146, 3), (14, .iconst 1, 1), (15, .if_icmp .ne 7, 3), (18, .iconst 1, 1), (19, .goto 4, 3), (22, .iconst 0, 1), (23, .ireturn, 1)]
set_option maxRecDepth 100000 in
theorem kX9_isGranted : dk_ok cX9_isGranted iX9_isGranted = true := by decide +kernel
def iX9_isCarriedOut : dk_T := [(0, .aload_n 0, 1), (1, .iload_n 1, 1), (2, .invokevirtual 152, 3), (5, .ifCond .ne 17, 3), (8, .aload_n 0, 1), (9, .iload_n 1, 1), (10, .iconst 1, 1), (11, .invokevirtual 146, 3), (14, .iconst 1, 1), (15, .if_icmp .ne 7, 3), (18, .iconst 1, 1), (19, .goto 4, 3), (22, .iconst 0, 1), (23, .ireturn, 1)]
set_option maxRecDepth 100000 in
theorem kX9_isCarriedOut : dk_ok cX9_isCarriedOut iX9_isCarriedOut = true := by decide +kernel
def iX9_citationCount : dk_T := [(0, .aload_n 0, 1), (1, .iload_n 1, 1), (2, .invokevirtual 152, 3), (5, .ifCond .eq 7, 3), (8, .iconst 0, 1), (9, .goto 9, 3), (12, .aload_n 0, 1), (13, .iload_n 1, 1), (14, .iconst 2, 1), (15, .invokevirtual 146, 3), (18, .ireturn, 1)]
set_option maxRecDepth 100000 in
theorem kX9_citationCount : dk_ok cX9_citationCount iX9_citationCount = true := by decide +kernel
def iX9_citation : dk_T := [(0, .aload_n 0, 1), (1, .aload_n 0, 1), (2, .iload_n 1, 1), (3, .invokevirtual 126, 3), (6, .ifCond .ne 7, 3), (9, .iconst 1, 1), (10, .goto 24, 3), (13, .iload_n 2, 1), (14, .iconst 0, 1), (15, .aload_n 0, 1), (16, .iload_n 1, 1), (17, .iconst 2, 1), (18, .invokevirtual 146, 3), (21, .iconst 1, 1), (22, .isub, 1), (23, .invokestatic 68, 3), (26, .ifCond .eq 7, 3), (29, .iconst 0, 1), (30, .goto 4, 3), (33, .iconst 2, 1), (34, .invokevirtual 80, 3), (37, .ifCond .eq 7, 3), (40, .iconst 0, 1), (41, .goto 11, 3), (44, .aload_n 0, 1), (45, .iload_n 1, 1), (46, .iconst 3, 1), (47, .iload_n 2, 1), (48, .iadd, 1), (49, .invokevirtual 146, 3), (52, .ireturn, 1)]
set_option maxRecDepth 100000 in
theorem kX9_citation : dk_ok cX9_citation iX9_citation = true := by decide +kernel
def iX9_names : dk_T := [(0, .iconst 0, 1), (1, .istore_n 3, 1), (2, .iload_n 3, 1), (3, .aload_n 0, 1), (4, .iload_n 1, 1), (5, .iconst 2, 1), (6, .invokevirtual 146, 3), (9, .if_icmp .ge 23, 3), (12, .aload_n 0, 1), (13, .iload_n 1, 1), (14, .iconst 3, 1), (15, .iload_n 3, 1), (16, .iadd, 1), (17, .invokevirtual 146, 3), (20, .iload_n 2, 1), (21, .if_icmp .ne 5, 3), (24, .iconst 1, 1), (25, .ireturn, 1), (26, .iinc 3 1, 3), (29, .goto (-27), 3), (32, .iconst 0, 1), (33, .ireturn, 1)]
set_option maxRecDepth 100000 in
theorem kX9_names : dk_ok cX9_names iX9_names = true := by decide +kernel
def iX9_citedBy : dk_T := [(0, .aload_n 0, 1), (1, .iload_n 1, 1), (2, .invokevirtual 152, 3), (5, .ifCond .eq 5, 3), (8, .iconst 0, 1), (9, .ireturn, 1), (10, .iconst 0, 1), (11, .istore_n 2, 1), (12, .iconst 0, 1), (13, .istore_n 3, 1), (14, .iload_n 3, 1), (15, .aload_n 0, 1), (16, .getfield 7, 3), (19, .iconst 5, 1), (20, .iaload, 1), (21, .if_icmp .ge 26, 3), (24, .iload_n 2, 1), (25, .aload_n 0, 1), (26, .iload_n 3, 1), (27, .iload_n 1, 1), (28, .invokevirtual 155, 3), (31, .ifCond .eq 7, 3), (34, .iconst 1, 1), (35, .goto 4, 3), (38, .iconst 0, 1), (39, .iadd, 1), (40, .istore_n 2, 1), (41, .iinc 3 1, 3), (44, .goto (-30), 3), (47, .iload_n 2, 1), (48, .ireturn, 1)]
set_option maxRecDepth 100000 in
theorem kX9_citedBy : dk_ok cX9_citedBy iX9_citedBy = true := by decide +kernel
def iX9_depth : dk_T := [(0, .aload_n 0, 1), (1, .iload_n 1, 1), (2, .invokevirtual 152, 3), (5, .ifCond .eq 5, 3), (8, .iconst 0, 1), (9, .ireturn, 1), (10, .iconst 0, 1), (11, .istore_n 2, 1), (12, .iload_n 2, 1), (13, .iload_n 1, 1), (14, .if_icmp .gt 67, 3), (17, .aload_n 0, 1), (18, .getfield 33, 3), (21, .iload_n 2, 1), (22, .iconst 0, 1), (23, .iastore, 1), (24, .iconst 0, 1), (25, .istore_n 3, 1), (26, .iload_n 3, 1), (27, .iload_n 2, 1), (28, .if_icmp .ge 47, 3), (31, .aload_n 0, 1), (32, .iload_n 2, 1), (33, .iload_n 3, 1), (34, .invokevirtual 155, 3), (37, .ifCond .eq 32, 3), (40, .aload_n 0, 1), (41, .getfield 33, 3), (44, .iload_n 3, 1), (45, .iaload, 1), (46, .aload_n 0, 1), (47, .getfield 33, 3), (50, .iload_n 2, 1), (51, .iaload, 1), (52, .if_icmp .lt 17, 3), (55, .aload_n 0, 1), (56, .getfield 33, 3), (59, .iload_n 2, 1), (60, .aload_n 0, 1), (61, .getfield 33, 3), (64, .iload_n 3, 1), (65, .iaload, 1), (66, .iconst 1, 1), (67, .iadd, 1), (68, .iastore, 1), (69, .iinc 3 1, 3), (72, .goto (-46), 3), (75, .iinc 2 1, 3), (78, .goto (-66), 3), (81, .aload_n 0, 1), (82, .getfield 33, 3), (85, .iload_n 1, 1), (86, .iaload, 1), (87, .ireturn, 1)]
set_option maxRecDepth 100000 in
theorem kX9_depth : dk_ok cX9_depth iX9_depth = true := by decide +kernel
def iX9_based : dk_T := [(0, .iconst 1, 1), (1, .iload_n 1, 1), (2, .ishl, 1), (3, .istore_n 2, 1), (4, .iload_n 1, 1), (5, .iconst 1, 1), (6, .iadd, 1), (7, .istore_n 3, 1), (8, .iload_n 3, 1), (9, .aload_n 0, 1), (10, .getfield 7, 3), (13, .iconst 5, 1), (14, .iaload, 1), (15, .if_icmp .ge 50, 3), (18, .iload_n 1, 1), (19, .istore 4, 2), (21, .iload 4, 2), (23, .iload_n 3, 1), (24, .if_icmp .ge 35, 3), (27, .iload_n 2, 1), (28, .iload 4, 2), (30, .ishr, 1), (31, .iconst 1, 1), (32, .iand, 1), (33, .iconst 1, 1), (34, .if_icmp .ne 19, 3), (37, .aload_n 0, 1), (38, .iload_n 3, 1), (39, .iload 4, 2), (41, .invokevirtual 155, 3), (44, .ifCond .eq 9, 3), (47, .iload_n 2, 1), (48, .iconst 1, 1), (49, .iload_n 3, 1), (50, .ishl, 1), (51, .ior, 1), (52, .istore_n 2, 1), (53, .iinc 4 1, 3), (56, .goto (-35), 3), (59, .iinc 3 1, 3), (62, .goto (-54), 3), (65, .iload_n 2, 1), (66, .iconst 1, 1), (67, .iload_n 1, 1), (68, .ishl, 1), (69, .iconst (-1), 1), (70, .ixor, 1), (71, .iand, 1), (72, .ireturn, 1)]
set_option maxRecDepth 100000 in
theorem kX9_based : dk_ok cX9_based iX9_based = true := by decide +kernel
def iX9_reaches : dk_T := [(0, .iconst 0, 1), (1, .istore_n 2, 1), (2, .iconst 0, 1), (3, .istore_n 3, 1), (4, .iload_n 3, 1), (5, .aload_n 0, 1), (6, .getfield 7, 3), (9, .iconst 5, 1), (10, .iaload, 1), (11, .if_icmp .ge 21, 3), (14, .iload_n 2, 1), (15, .aload_n 0, 1), (16, .iload_n 1, 1), (17, .invokevirtual 158, 3), (20, .iload_n 3, 1), (21, .ishr, 1), (22, .iconst 1, 1), (23, .iand, 1), (24, .iadd, 1), (25, .istore_n 2, 1), (26, .iinc 3 1, 3), (29, .goto (-25), 3), (32, .iload_n 2, 1), (33, .ireturn, 1)]
set_option maxRecDepth 100000 in
theorem kX9_reaches : dk_ok cX9_reaches iX9_reaches = true := by decide +kernel
def iX9_isBasedOn : dk_T := [(0, .aload_n 0, 1), (1, .aload_n 0, 1), (2, .iload_n 1, 1), (3, .invokevirtual 126, 3), (6, .ifCond .eq 15, 3), (9, .aload_n 0, 1), (10, .iload_n 2, 1), (11, .invokevirtual 126, 3), (14, .ifCond .eq 7, 3), (17, .iconst 0, 1), (18, .goto 4, 3), (21, .iconst 1, 1), (22, .invokevirtual 80, 3), (25, .ifCond .ne 20, 3), (28, .aload_n 0, 1), (29, .iload_n 2, 1), (30, .invokevirtual 158, 3), (33, .iload_n 1, 1), (34, .ishr, 1), (35, .iconst 1, 1), (36, .iand, 1), (37, .iconst 1, 1), (38, .if_icmp .ne 7, 3), (41, .iconst 1, 1), (42, .goto 4, 3), (45, .iconst 0, 1), (46, .ireturn, 1)]
set_option maxRecDepth 100000 in
theorem kX9_isBasedOn : dk_ok cX9_isBasedOn iX9_isBasedOn = true := by decide +kernel
def iX9_influence : dk_T := [(0, .aload_n 0, 1), (1, .iload_n 1, 1), (2, .invokevirtual 152, 3), (5, .ifCond .eq 7, 3), (8, .iconst 0, 1), (9, .goto 8, 3), (12, .aload_n 0, 1), (13, .iload_n 1, 1), (14, .invokevirtual 161, 3), (17, .ireturn, 1)]
set_option maxRecDepth 100000 in
theorem kX9_influence : dk_ok cX9_influence iX9_influence = true := by decide +kernel
def iX9_influenceByMarking : dk_T := [(0, .aload_n 0, 1), (1, .iload_n 1, 1), (2, .invokevirtual 152, 3), (5, .ifCond .eq 7, 3), (8, .iconst 0, 1), (9, .goto 8, 3), (12, .aload_n 0, 1), (13, .iload_n 1, 1), (14, .invokevirtual 161, 3), (17, .ireturn, 1)]
set_option maxRecDepth 100000 in
theorem kX9_influenceByMarking : dk_ok cX9_influenceByMarking iX9_influenceByMarking = true := by decide +kernel
def iX9_rulingByInfluence : dk_T := [(0, .iconst 0, 1), (1, .istore_n 2, 1), (2, .iload_n 2, 1), (3, .aload_n 0, 1), (4, .getfield 7, 3), (7, .iconst 5, 1), (8, .iaload, 1), (9, .if_icmp .ge 88, 3), (12, .iconst 0, 1), (13, .istore_n 3, 1), (14, .iconst 0, 1), (15, .istore 4, 2), (17, .iload 4, 2), (19, .aload_n 0, 1), (20, .getfield 7, 3), (23, .iconst 5, 1), (24, .iaload, 1), (25, .if_icmp .ge 51, 3), (28, .iload_n 3, 1), (29, .aload_n 0, 1), (30, .iload 4, 2), (32, .invokevirtual 161, 3), (35, .aload_n 0, 1), (36, .iload_n 2, 1), (37, .invokevirtual 161, 3), (40, .if_icmp .gt 23, 3), (43, .aload_n 0, 1), (44, .iload 4, 2), (46, .invokevirtual 161, 3), (49, .aload_n 0, 1), (50, .iload_n 2, 1), (51, .invokevirtual 161, 3), (54, .if_icmp .ne 13, 3), (57, .iload 4, 2), (59, .iload_n 2, 1), (60, .if_icmp .ge 7, 3), (63, .iconst 1, 1), (64, .goto 4, 3), (67, .iconst 0, 1), (68, .iadd, 1), (69, .istore_n 3, 1), (70, .iinc 4 1, 3), (73, .goto (-56), 3), (76, .iload_n 3, 1), (77, .iload_n 1, 1), (78, .if_icmp .eq 6, 3), (81, .goto 10, 3), (84, .aload_n 0, 1), (85, .iconst 0, 1), (86, .putfield 39, 3), (89, .iload_n 2, 1), (90, .ireturn, 1), (91, .iinc 2 1, 3), (94, .goto (-92), 3), (97, .aload_n 0, 1), (98, .iconst 1, 1), (99, .putfield 39, 3), (102, .iconst 0, 1), (103, .ireturn, 1)]
set_option maxRecDepth 100000 in
theorem kX9_rulingByInfluence : dk_ok cX9_rulingByInfluence iX9_rulingByInfluence = true := by decide +kernel
def iX9_filedCount : dk_T := [(0, .aload_n 0, 1), (1, .iconst 0, 1), (2, .putfield 39, 3), (5, .aload_n 0, 1), (6, .getfield 7, 3), (9, .iconst 4, 1), (10, .iaload, 1), (11, .ireturn, 1)]
set_option maxRecDepth 100000 in
theorem kX9_filedCount : dk_ok cX9_filedCount iX9_filedCount = true := by decide +kernel
def iX9_vetoes : dk_T := [(0, .aload_n 0, 1), (1, .iconst 0, 1), (2, .putfield 39, 3), (5, .aload_n 0, 1), (6, .getfield 7, 3), (9, .bipush 6, 2), (11, .iaload, 1), (12, .ireturn, 1)]
set_option maxRecDepth 100000 in
theorem kX9_vetoes : dk_ok cX9_vetoes iX9_vetoes = true := by decide +kernel
def iX9_withdrawals : dk_T := [(0, .aload_n 0, 1), (1, .iconst 0, 1), (2, .putfield 39, 3), (5, .aload_n 0, 1), (6, .getfield 7, 3), (9, .bipush 7, 2), (11, .iaload, 1), (12, .ireturn, 1)]
set_option maxRecDepth 100000 in
theorem kX9_withdrawals : dk_ok cX9_withdrawals iX9_withdrawals = true := by decide +kernel
def iX9_movedWeight : dk_T := [(0, .aload_n 0, 1), (1, .iconst 0, 1), (2, .putfield 39, 3), (5, .aload_n 0, 1), (6, .getfield 7, 3), (9, .bipush 8, 2), (11, .iaload, 1), (12, .ireturn, 1)]
set_option maxRecDepth 100000 in
theorem kX9_movedWeight : dk_ok cX9_movedWeight iX9_movedWeight = true := by decide +kernel
def iX9_meanVotes : dk_T := [(0, .aload_n 0, 1), (1, .aload_n 0, 1), (2, .getfield 7, 3), (5, .iconst 3, 1), (6, .iaload, 1), (7, .ifCond .ne 7, 3), (10, .iconst 1, 1), (11, .goto 4, 3), (14, .iconst 0, 1), (15, .invokevirtual 80, 3), (18, .ifCond .eq 5, 3), (21, .dconst 0, 1), (22, .dreturn, 1), (23, .iconst 0, 1), (24, .istore_n 1, 1), (25, .iconst 0, 1), (26, .istore_n 2, 1), (27, .iload_n 2, 1), (28, .aload_n 0, 1), (29, .getfield 7, 3), (32, .iconst 3, 1), (33, .iaload, 1), (34, .if_icmp .ge 17, 3), (37, .iload_n 1, 1), (38, .aload_n 0, 1), (39, .iload_n 2, 1), (40, .invokevirtual 123, 3), (43, .iadd, 1), (44, .istore_n 1, 1), (45, .iinc 2 1, 3), (48, .goto (-21), 3), (51, .iload_n 1, 1), (52, .i2d, 1), (53, .aload_n 0, 1), (54, .getfield 7, 3), (57, .iconst 3, 1), (58, .iaload, 1), (59, .i2d, 1), (60, .ddiv, 1), (61, .dreturn, 1)]
set_option maxRecDepth 100000 in
theorem kX9_meanVotes : dk_ok cX9_meanVotes iX9_meanVotes = true := by decide +kernel
def iX9_grantedShare : dk_T := [(0, .aload_n 0, 1), (1, .aload_n 0, 1), (2, .getfield 7, 3), (5, .iconst 5, 1), (6, .iaload, 1), (7, .ifCond .ne 7, 3), (10, .iconst 1, 1), (11, .goto 4, 3), (14, .iconst 0, 1), (15, .invokevirtual 80, 3), (18, .ifCond .eq 5, 3), (21, .fconst 0, 1), (22, .freturn, 1), (23, .iconst 0, 1), (24, .istore_n 1, 1), (25, .iconst 0, 1), (26, .istore_n 2, 1), (27, .iload_n 2, 1), (28, .aload_n 0, 1), (29, .getfield 7, 3), (32, .iconst 5, 1), (33, .iaload, 1), (34, .if_icmp .ge 18, 3), (37, .iload_n 1, 1), (38, .aload_n 0, 1), (39, .iload_n 2, 1), (40, .iconst 0, 1), (41, .invokevirtual 146, 3), (44, .iadd, 1), (45, .istore_n 1, 1), (46, .iinc 2 1, 3), (49, .goto (-22), 3), (52, .iload_n 1, 1), (53, .i2f, 1), (54, .aload_n 0, 1), (55, .getfield 7, 3), (58, .iconst 5, 1), (59, .iaload, 1), (60, .i2f, 1), (61, .fdiv, 1), (62, .freturn, 1)]
set_option maxRecDepth 100000 in
theorem kX9_grantedShare : dk_ok cX9_grantedShare iX9_grantedShare = true := by decide +kernel
def iX9_feed : dk_T := [(0, .aload_n 0, 1), (1, .aload_n 0, 1), (2, .getfield 164, 3), (5, .bipush 60, 2), (7, .if_icmp .ne 7, 3), (10, .iconst 1, 1), (11, .goto 4, 3), (14, .iconst 0, 1), (15, .invokevirtual 80, 3), (18, .ifCond .eq 5, 3), (21, .iconst 0, 1), (22, .ireturn, 1), (23, .aload_n 0, 1), (24, .getfield 22, 3), (27, .aload_n 0, 1), (28, .getfield 164, 3), (31, .iload_n 1, 1), (32, .iastore, 1), (33, .aload_n 0, 1), (34, .dup, 1), (35, .getfield 164, 3), (38, .iconst 1, 1), (39, .iadd, 1), (40, .putfield 164, 3), (43, .aload_n 0, 1), (44, .getfield 164, 3), (47, .ireturn, 1)]
set_option maxRecDepth 100000 in
theorem kX9_feed : dk_ok cX9_feed iX9_feed = true := by decide +kernel
def iX9_here : dk_T := [(0, .aload_n 0, 1), (1, .getfield 167, 3), (4, .aload_n 0, 1), (5, .getfield 164, 3), (8, .if_icmp .ge 15, 3), (11, .aload_n 0, 1), (12, .getfield 22, 3), (15, .aload_n 0, 1), (16, .getfield 167, 3), (19, .iaload, 1), (20, .goto 4, 3), (23, .iconst (-1), 1), (24, .ireturn, 1)]
set_option maxRecDepth 100000 in
theorem kX9_here : dk_ok cX9_here iX9_here = true := by decide +kernel
def iX9_skips : dk_T := [(0, .aload_n 0, 1), (1, .invokevirtual 170, 3), (4, .iload_n 1, 1), (5, .if_icmp .eq 5, 3), (8, .iconst 0, 1), (9, .ireturn, 1), (10, .aload_n 0, 1), (11, .dup, 1), (12, .getfield 167, 3), (15, .iconst 1, 1), (16, .iadd, 1), (17, .putfield 167, 3), (20, .iconst 1, 1), (21, .ireturn, 1)]
set_option maxRecDepth 100000 in
theorem kX9_skips : dk_ok cX9_skips iX9_skips = true := by decide +kernel
def iX9_isWord : dk_T := [(0, .aload_n 0, 1), (1, .getfield 36, 3), (4, .iconst 5, 1), (5, .aload_n 0, 1), (6, .getfield 174, 3), (9, .imul, 1), (10, .aload_n 1, 1), (11, .iconst 0, 1), (12, .invokevirtual 177, 3), (15, .iastore, 1), (16, .iconst 0, 1), (17, .istore_n 2, 1), (18, .iload_n 2, 1), (19, .aload_n 1, 1), (20, .invokevirtual 183, 3), (23, .if_icmp .ge 23, 3), (26, .aload_n 0, 1), (27, .aload_n 1, 1), (28, .iload_n 2, 1), (29, .invokevirtual 177, 3), (32, .invokevirtual 185, 3), (35, .ifCond .ne 5, 3), (38, .iconst 0, 1), (39, .ireturn, 1), (40, .iinc 2 1, 3), (43, .goto (-25), 3), (46, .iconst 1, 1), (47, .ireturn, 1)]
set_option maxRecDepth 100000 in
theorem kX9_isWord : dk_ok cX9_isWord iX9_isWord = true := by decide +kernel
def iX9_figures : dk_T := [(0, .aload_n 0, 1), (1, .bipush 32, 2), (3, .invokevirtual 185, 3), (6, .ifCond .eq 17, 3), (9, .aload_n 0, 1), (10, .invokevirtual 170, 3), (13, .bipush 48, 2), (15, .bipush 57, 2), (17, .invokestatic 68, 3), (20, .ifCond .ne 5, 3), (23, .iconst 0, 1), (24, .ireturn, 1), (25, .aload_n 0, 1), (26, .getfield 36, 3), (29, .iload_n 1, 1), (30, .iconst 0, 1), (31, .iastore, 1), (32, .iconst 0, 1), (33, .istore_n 3, 1), (34, .iload_n 3, 1), (35, .iload_n 2, 1), (36, .if_icmp .ge 56, 3), (39, .aload_n 0, 1), (40, .invokevirtual 170, 3), (43, .bipush 48, 2), (45, .bipush 57, 2), (47, .invokestatic 68, 3), (50, .ifCond .eq 42, 3), (53, .aload_n 0, 1), (54, .getfield 36, 3), (57, .iload_n 1, 1), (58, .bipush 10, 2), (60, .aload_n 0, 1), (61, .getfield 36, 3), (64, .iload_n 1, 1), (65, .iaload, 1), (66, .imul, 1), (67, .aload_n 0, 1), (68, .invokevirtual 170, 3), (71, .iadd, 1), (72, .bipush 48, 2), (74, .isub, 1), (75, .iastore, 1), (76, .aload_n 0, 1), (77, .dup, 1), (78, .getfield 167, 3), (81, .iconst 1, 1), (82, .iadd, 1), (83, .putfield 167, 3), (86, .iinc 3 1, 3), (89, .goto (-55), 3), (92, .iconst 1, 1), (93, .ireturn, 1)]
set_option maxRecDepth 100000 in
theorem kX9_figures : dk_ok cX9_figures iX9_figures = true := by decide +kernel
def iX9_commandHere_p0 : dk_T := [(0, .iconst 5, 1), (1, .aload_n 0, 1), (2, .getfield 174, 3), (5, .imul, 1), (6, .iconst 1, 1), (7, .iadd, 1), (8, .istore_n 1, 1), (9, .aload_n 0, 1), (10, .invokevirtual 170, 3), (13, .tableswitch 418 99 121 #[317, 411, 418, 190, 418, 418, 418, 418, 418, 418, 418, 282, 142, 418, 166, 418, 107, 418, 418, 352, 387, 418, 247], 107), (120, .aload_n 0, 1), (121, .ldc 188, 2), (123, .invokevirtual 190, 3), (126, .ifCond .eq 27, 3), (129, .aload_n 0, 1), (130, .iload_n 1, 1), (131, .iconst 2, 1), (132, .invokevirtual 194, 3), (135, .ifCond .eq 18, 3), (138, .aload_n 0, 1), (139, .iload_n 1, 1), (140, .iconst 1, 1), (141, .iadd, 1), (142, .iconst 1, 1), (143, .invokevirtual 194, 3), (146, .ifCond .eq 7, 3), (149, .iconst 1, 1), (150, .goto 4, 3), (153, .iconst 0, 1), (154, .ireturn, 1), (155, .aload_n 0, 1), (156, .ldc 197, 2), (158, .invokevirtual 190, 3), (161, .ifCond .eq 16, 3), (164, .aload_n 0, 1), (165, .iload_n 1, 1), (166, .iconst 1, 1), (167, .invokevirtual 194, 3), (170, .ifCond .eq 7, 3), (173, .iconst 1, 1), (174, .goto 4, 3), (177, .iconst 0, 1), (178, .ireturn, 1), (179, .aload_n 0, 1), (180, .ldc 199, 2), (182, .invokevirtual 190, 3), (185, .ifCond .eq 16, 3), (188, .aload_n 0, 1), (189, .iload_n 1, 1), (190, .iconst 1, 1), (191, .invokevirtual 194, 3), (194, .ifCond .eq 7, 3), (197, .iconst 1, 1), (198, .goto 4, 3), (201, .iconst 0, 1), (202, .ireturn, 1), (203, .aload_n 0, 1), (204, .ldc 201, 2), (206, .invokevirtual 190, 3), (209, .ifCond .eq 49, 3)]
set_option maxRecDepth 100000 in
theorem kX9_commandHere_p0 : dk_ok cX9_commandHere iX9_commandHere_p0 = true := by decide +kernel
def iX9_commandHere_p1 : dk_T := [(212, .aload_n 0, 1), (213, .iload_n 1, 1), (214, .iconst 1, 1), (215, .invokevirtual 194, 3), (218, .ifCond .eq 40, 3), (221, .aload_n 0, 1), (222, .iload_n 1, 1), (223, .iconst 1, 1), (224, .iadd, 1), (225, .iconst 1, 1), (226, .invokevirtual 194, 3), (229, .ifCond .eq 29, 3), (232, .aload_n 0, 1), (233, .iload_n 1, 1), (234, .iconst 2, 1), (235, .iadd, 1), (236, .iconst 2, 1), (237, .invokevirtual 194, 3), (240, .ifCond .eq 18, 3), (243, .aload_n 0, 1), (244, .iload_n 1, 1), (245, .iconst 3, 1), (246, .iadd, 1), (247, .iconst 1, 1), (248, .invokevirtual 194, 3), (251, .ifCond .eq 7, 3), (254, .iconst 1, 1), (255, .goto 4, 3), (258, .iconst 0, 1), (259, .ireturn, 1), (260, .aload_n 0, 1), (261, .ldc 203, 2), (263, .invokevirtual 190, 3), (266, .ifCond .eq 27, 3), (269, .aload_n 0, 1), (270, .iload_n 1, 1), (271, .iconst 1, 1), (272, .invokevirtual 194, 3), (275, .ifCond .eq 18, 3), (278, .aload_n 0, 1), (279, .iload_n 1, 1), (280, .iconst 1, 1), (281, .iadd, 1), (282, .iconst 2, 1), (283, .invokevirtual 194, 3), (286, .ifCond .eq 7, 3), (289, .iconst 1, 1), (290, .goto 4, 3), (293, .iconst 0, 1), (294, .ireturn, 1), (295, .aload_n 0, 1), (296, .ldc 205, 2), (298, .invokevirtual 190, 3), (301, .ifCond .eq 27, 3), (304, .aload_n 0, 1), (305, .iload_n 1, 1), (306, .iconst 1, 1), (307, .invokevirtual 194, 3), (310, .ifCond .eq 18, 3), (313, .aload_n 0, 1)]
set_option maxRecDepth 100000 in
theorem kX9_commandHere_p1 : dk_ok cX9_commandHere iX9_commandHere_p1 = true := by decide +kernel
def iX9_commandHere_p2 : dk_T := [(314, .iload_n 1, 1), (315, .iconst 1, 1), (316, .iadd, 1), (317, .iconst 2, 1), (318, .invokevirtual 194, 3), (321, .ifCond .eq 7, 3), (324, .iconst 1, 1), (325, .goto 4, 3), (328, .iconst 0, 1), (329, .ireturn, 1), (330, .aload_n 0, 1), (331, .ldc 207, 2), (333, .invokevirtual 190, 3), (336, .ifCond .eq 27, 3), (339, .aload_n 0, 1), (340, .iload_n 1, 1), (341, .iconst 2, 1), (342, .invokevirtual 194, 3), (345, .ifCond .eq 18, 3), (348, .aload_n 0, 1), (349, .iload_n 1, 1), (350, .iconst 1, 1), (351, .iadd, 1), (352, .iconst 2, 1), (353, .invokevirtual 194, 3), (356, .ifCond .eq 7, 3), (359, .iconst 1, 1), (360, .goto 4, 3), (363, .iconst 0, 1), (364, .ireturn, 1), (365, .aload_n 0, 1), (366, .ldc 209, 2), (368, .invokevirtual 190, 3), (371, .ifCond .eq 27, 3), (374, .aload_n 0, 1), (375, .iload_n 1, 1), (376, .iconst 1, 1), (377, .invokevirtual 194, 3), (380, .ifCond .eq 18, 3), (383, .aload_n 0, 1), (384, .iload_n 1, 1), (385, .iconst 1, 1), (386, .iadd, 1), (387, .iconst 2, 1), (388, .invokevirtual 194, 3), (391, .ifCond .eq 7, 3), (394, .iconst 1, 1), (395, .goto 4, 3), (398, .iconst 0, 1), (399, .ireturn, 1), (400, .aload_n 0, 1), (401, .ldc 211, 2), (403, .invokevirtual 190, 3), (406, .ifCond .eq 16, 3), (409, .aload_n 0, 1), (410, .iload_n 1, 1), (411, .iconst 2, 1), (412, .invokevirtual 194, 3), (415, .ifCond .eq 7, 3), (418, .iconst 1, 1)]
set_option maxRecDepth 100000 in
theorem kX9_commandHere_p2 : dk_ok cX9_commandHere iX9_commandHere_p2 = true := by decide +kernel
def iX9_commandHere_p3 : dk_T := [(419, .goto 4, 3), (422, .iconst 0, 1), (423, .ireturn, 1), (424, .aload_n 0, 1), (425, .ldc 213, 2), (427, .invokevirtual 190, 3), (430, .ireturn, 1), (431, .iconst 0, 1), (432, .ireturn, 1)]
set_option maxRecDepth 100000 in
theorem kX9_commandHere_p3 : dk_ok cX9_commandHere iX9_commandHere_p3 = true := by decide +kernel
def iX9_isText : dk_T := [(0, .aload_n 0, 1), (1, .iconst 0, 1), (2, .putfield 167, 3), (5, .aload_n 0, 1), (6, .iconst 0, 1), (7, .putfield 174, 3), (10, .aload_n 0, 1), (11, .invokevirtual 215, 3), (14, .ifCond .ne 5, 3), (17, .iconst 0, 1), (18, .ireturn, 1), (19, .aload_n 0, 1), (20, .dup, 1), (21, .getfield 174, 3), (24, .iconst 1, 1), (25, .iadd, 1), (26, .putfield 174, 3), (29, .aload_n 0, 1), (30, .bipush 59, 2), (32, .invokevirtual 185, 3), (35, .ifCond .ne (-25), 3), (38, .aload_n 0, 1), (39, .getfield 167, 3), (42, .aload_n 0, 1), (43, .getfield 164, 3), (46, .if_icmp .ne 7, 3), (49, .iconst 1, 1), (50, .goto 4, 3), (53, .iconst 0, 1), (54, .ireturn, 1)]
set_option maxRecDepth 100000 in
theorem kX9_isText : dk_ok cX9_isText iX9_isText = true := by decide +kernel
def iX9_carries_p0 : dk_T := [(0, .aload_n 0, 1), (1, .getfield 36, 3), (4, .iload_n 1, 1), (5, .iconst 1, 1), (6, .iadd, 1), (7, .iaload, 1), (8, .istore_n 2, 1), (9, .aload_n 0, 1), (10, .getfield 36, 3), (13, .iload_n 1, 1), (14, .iconst 2, 1), (15, .iadd, 1), (16, .iaload, 1), (17, .istore_n 3, 1), (18, .aload_n 0, 1), (19, .getfield 36, 3), (22, .iload_n 1, 1), (23, .iaload, 1), (24, .tableswitch 186 99 121 #[166, 186, 186, 127, 186, 186, 186, 186, 186, 186, 186, 158, 115, 186, 121, 186, 108, 186, 186, 173, 180, 186, 150], 108), (132, .aload_n 0, 1), (133, .iload_n 2, 1), (134, .iload_n 3, 1), (135, .invokevirtual 219, 3), (138, .ireturn, 1), (139, .aload_n 0, 1), (140, .iload_n 2, 1), (141, .invokevirtual 222, 3), (144, .ireturn, 1), (145, .aload_n 0, 1), (146, .iload_n 2, 1), (147, .invokevirtual 225, 3), (150, .ireturn, 1), (151, .aload_n 0, 1), (152, .iload_n 2, 1), (153, .iload_n 3, 1), (154, .aload_n 0, 1), (155, .getfield 36, 3), (158, .iload_n 1, 1), (159, .iconst 3, 1), (160, .iadd, 1), (161, .iaload, 1), (162, .aload_n 0, 1), (163, .getfield 36, 3), (166, .iload_n 1, 1), (167, .iconst 4, 1), (168, .iadd, 1), (169, .iaload, 1), (170, .invokevirtual 228, 3), (173, .ireturn, 1), (174, .aload_n 0, 1), (175, .iload_n 2, 1), (176, .iload_n 3, 1), (177, .iconst 1, 1), (178, .invokevirtual 231, 3), (181, .ireturn, 1), (182, .aload_n 0, 1), (183, .iload_n 2, 1), (184, .iload_n 3, 1), (185, .iconst 0, 1), (186, .invokevirtual 231, 3)]
set_option maxRecDepth 100000 in
theorem kX9_carries_p0 : dk_ok cX9_carries iX9_carries_p0 = true := by decide +kernel
def iX9_carries_p1 : dk_T := [(189, .ireturn, 1), (190, .aload_n 0, 1), (191, .iload_n 2, 1), (192, .iload_n 3, 1), (193, .invokevirtual 235, 3), (196, .ireturn, 1), (197, .aload_n 0, 1), (198, .iload_n 2, 1), (199, .iload_n 3, 1), (200, .invokevirtual 237, 3), (203, .ireturn, 1), (204, .aload_n 0, 1), (205, .iload_n 2, 1), (206, .invokevirtual 239, 3), (209, .ireturn, 1), (210, .aload_n 0, 1), (211, .invokevirtual 241, 3), (214, .ireturn, 1)]
set_option maxRecDepth 100000 in
theorem kX9_carries_p1 : dk_ok cX9_carries iX9_carries_p1 = true := by decide +kernel
def iX9_deniesText : dk_T := [(0, .aload_n 0, 1), (1, .getfield 42, 3), (4, .ifCond .eq 10, 3), (7, .aload_n 0, 1), (8, .getfield 46, 3), (11, .goto 5, 3), (14, .bipush 13, 2), (16, .istore_n 2, 1), (17, .aload_n 0, 1), (18, .getfield 42, 3), (21, .ifCond .eq 10, 3), (24, .aload_n 0, 1), (25, .getfield 49, 3), (28, .goto 4, 3), (31, .iconst 0, 1), (32, .istore_n 3, 1), (33, .aload_n 0, 1), (34, .iconst 2, 1), (35, .bipush 12, 2), (37, .iload_n 1, 1), (38, .invokevirtual 86, 3), (41, .pop, 1), (42, .aload_n 0, 1), (43, .iload_n 2, 1), (44, .putfield 52, 3), (47, .aload_n 0, 1), (48, .iload_n 3, 1), (49, .putfield 55, 3), (52, .iconst 0, 1), (53, .ireturn, 1)]
set_option maxRecDepth 100000 in
theorem kX9_deniesText : dk_ok cX9_deniesText iX9_deniesText = true := by decide +kernel
def iX9_execute_p0 : dk_T := [(0, .aload_n 0, 1), (1, .invokevirtual 243, 3), (4, .istore_n 1, 1), (5, .iload_n 1, 1), (6, .ifCond .ne 11, 3), (9, .aload_n 0, 1), (10, .aload_n 0, 1), (11, .getfield 167, 3), (14, .putfield 25, 3), (17, .aload_n 0, 1), (18, .iconst 0, 1), (19, .putfield 164, 3), (22, .aload_n 0, 1), (23, .iload_n 1, 1), (24, .ifCond .eq 7, 3), (27, .iconst 0, 1), (28, .goto 4, 3), (31, .iconst 1, 1), (32, .invokevirtual 80, 3), (35, .ifCond .eq 5, 3), (38, .iconst 0, 1), (39, .ireturn, 1), (40, .aload_n 0, 1), (41, .getfield 7, 3), (44, .iconst 0, 1), (45, .aload_n 0, 1), (46, .getfield 19, 3), (49, .iconst 0, 1), (50, .invokestatic 64, 3), (53, .aload_n 0, 1), (54, .iconst 1, 1), (55, .putfield 58, 3), (58, .iconst 0, 1), (59, .istore_n 2, 1), (60, .iconst 0, 1), (61, .istore_n 3, 1), (62, .iload_n 2, 1), (63, .aload_n 0, 1), (64, .getfield 174, 3), (67, .if_icmp .ge 31, 3), (70, .aload_n 0, 1), (71, .getfield 39, 3), (74, .ifCond .ne 24, 3), (77, .aload_n 0, 1), (78, .iconst 5, 1), (79, .iload_n 2, 1), (80, .imul, 1), (81, .invokevirtual 246, 3), (84, .istore_n 3, 1), (85, .aload_n 0, 1), (86, .getfield 39, 3), (89, .ifCond .ne (-27), 3), (92, .iinc 2 1, 3), (95, .goto (-33), 3), (98, .aload_n 0, 1), (99, .iconst 0, 1), (100, .putfield 58, 3), (103, .aload_n 0, 1), (104, .getfield 39, 3), (107, .ifCond .le 32, 3)]
set_option maxRecDepth 100000 in
theorem kX9_execute_p0 : dk_ok cX9_execute iX9_execute_p0 = true := by decide +kernel
def iX9_execute_p1 : dk_T := [(110, .aload_n 0, 1), (111, .getfield 19, 3), (114, .iconst 0, 1), (115, .aload_n 0, 1), (116, .getfield 7, 3), (119, .iconst 0, 1), (120, .invokestatic 64, 3), (123, .aload_n 0, 1), (124, .iload_n 2, 1), (125, .invokevirtual 249, 3), (128, .iload_n 3, 1), (129, .ifCond .le 7, 3), (132, .iconst 0, 1), (133, .goto 4, 3), (136, .iload_n 3, 1), (137, .iadd, 1), (138, .ireturn, 1), (139, .aload_n 0, 1), (140, .aload_n 0, 1), (141, .getfield 19, 3), (144, .invokevirtual 90, 3), (147, .aload_n 0, 1), (148, .getfield 174, 3), (151, .ireturn, 1)]
set_option maxRecDepth 100000 in
theorem kX9_execute_p1 : dk_ok cX9_execute iX9_execute_p1 = true := by decide +kernel
def iX9_faultPosition : dk_T := [(0, .aload_n 0, 1), (1, .aload_n 0, 1), (2, .getfield 25, 3), (5, .ifCond .ge 7, 3), (8, .iconst 1, 1), (9, .goto 4, 3), (12, .iconst 0, 1), (13, .invokevirtual 80, 3), (16, .ifCond .eq 7, 3), (19, .iconst 0, 1), (20, .goto 7, 3), (23, .aload_n 0, 1), (24, .getfield 25, 3), (27, .ireturn, 1)]
set_option maxRecDepth 100000 in
theorem kX9_faultPosition : dk_ok cX9_faultPosition iX9_faultPosition = true := by decide +kernel
def iX9_writes : dk_T := [(0, .aload_n 0, 1), (1, .getfield 29, 3), (4, .aload_n 0, 1), (5, .getfield 252, 3), (8, .iload_n 1, 1), (9, .i2c, 1), (10, .castore, 1), (11, .aload_n 0, 1), (12, .dup, 1), (13, .getfield 252, 3), (16, .iconst 1, 1), (17, .iadd, 1), (18, .putfield 252, 3), (21, .return_, 1)]
set_option maxRecDepth 100000 in
theorem kX9_writes : dk_ok cX9_writes iX9_writes = true := by decide +kernel
def iX9_writesNumber : dk_T := [(0, .iload_n 1, 1), (1, .bipush 9, 2), (3, .if_icmp .le 11, 3), (6, .aload_n 0, 1), (7, .iload_n 1, 1), (8, .bipush 10, 2), (10, .idiv, 1), (11, .invokevirtual 255, 3), (14, .aload_n 0, 1), (15, .bipush 48, 2), (17, .iload_n 1, 1), (18, .bipush 10, 2), (20, .irem, 1), (21, .iadd, 1), (22, .invokevirtual 258, 3), (25, .return_, 1)]
set_option maxRecDepth 100000 in
theorem kX9_writesNumber : dk_ok cX9_writesNumber iX9_writesNumber = true := by decide +kernel
def iX9_writesBehind : dk_T := [(0, .aload_n 0, 1), (1, .iload_n 1, 1), (2, .invokevirtual 258, 3), (5, .aload_n 0, 1), (6, .iload_n 2, 1), (7, .invokevirtual 255, 3), (10, .return_, 1)]
set_option maxRecDepth 100000 in
theorem kX9_writesBehind : dk_ok cX9_writesBehind iX9_writesBehind = true := by decide +kernel
def iX9_writePetition_p0 : dk_T := [(0, .aload_n 0, 1), (1, .iload_n 1, 1), (2, .invokevirtual 133, 3), (5, .ifCond .eq 5, 3), (8, .iconst 0, 1), (9, .ireturn, 1), (10, .aload_n 0, 1), (11, .iload_n 1, 1), (12, .invokevirtual 110, 3), (15, .istore_n 2, 1), (16, .aload_n 0, 1), (17, .iconst 0, 1), (18, .putfield 252, 3), (21, .aload_n 0, 1), (22, .bipush 35, 2), (24, .iload_n 1, 1), (25, .invokevirtual 261, 3), (28, .aload_n 0, 1), (29, .bipush 58, 2), (31, .aload_n 0, 1), (32, .iload_n 2, 1), (33, .iconst 2, 1), (34, .invokevirtual 106, 3), (37, .invokevirtual 261, 3), (40, .aload_n 0, 1), (41, .bipush 62, 2), (43, .aload_n 0, 1), (44, .iload_n 2, 1), (45, .iconst 3, 1), (46, .invokevirtual 106, 3), (49, .invokevirtual 261, 3), (52, .aload_n 0, 1), (53, .bipush 64, 2), (55, .aload_n 0, 1), (56, .iload_n 2, 1), (57, .iconst 1, 1), (58, .invokevirtual 106, 3), (61, .invokevirtual 261, 3), (64, .aload_n 0, 1), (65, .bipush 33, 2), (67, .aload_n 0, 1), (68, .iload_n 2, 1), (69, .iconst 4, 1), (70, .invokevirtual 106, 3), (73, .invokevirtual 261, 3), (76, .aload_n 0, 1), (77, .bipush 43, 2), (79, .aload_n 0, 1), (80, .iload_n 2, 1), (81, .iconst 5, 1), (82, .invokevirtual 106, 3), (85, .invokestatic 120, 3), (88, .invokevirtual 261, 3), (91, .aload_n 0, 1), (92, .bipush 45, 2), (94, .aload_n 0, 1), (95, .iload_n 2, 1), (96, .bipush 6, 2), (98, .invokevirtual 106, 3), (101, .invokestatic 120, 3)]
set_option maxRecDepth 100000 in
theorem kX9_writePetition_p0 : dk_ok cX9_writePetition iX9_writePetition_p0 = true := by decide +kernel
def iX9_writePetition_p1 : dk_T := [(104, .invokevirtual 261, 3), (107, .iconst 0, 1), (108, .istore_n 3, 1), (109, .iload_n 3, 1), (110, .aload_n 0, 1), (111, .iload_n 2, 1), (112, .bipush 7, 2), (114, .invokevirtual 106, 3), (117, .if_icmp .ge 24, 3), (120, .aload_n 0, 1), (121, .bipush 94, 2), (123, .aload_n 0, 1), (124, .iload_n 2, 1), (125, .bipush 8, 2), (127, .iload_n 3, 1), (128, .iadd, 1), (129, .invokevirtual 106, 3), (132, .invokevirtual 261, 3), (135, .iinc 3 1, 3), (138, .goto (-29), 3), (141, .aload_n 0, 1), (142, .getfield 252, 3), (145, .ireturn, 1)]
set_option maxRecDepth 100000 in
theorem kX9_writePetition_p1 : dk_ok cX9_writePetition iX9_writePetition_p1 = true := by decide +kernel
def iX9_writeRow : dk_T := [(0, .aload_n 0, 1), (1, .iload_n 1, 1), (2, .iconst 0, 1), (3, .iconst 4, 1), (4, .invokestatic 68, 3), (7, .ifCond .eq 7, 3), (10, .iconst 0, 1), (11, .goto 4, 3), (14, .iconst 1, 1), (15, .invokevirtual 80, 3), (18, .ifCond .eq 5, 3), (21, .iconst 0, 1), (22, .ireturn, 1), (23, .aload_n 0, 1), (24, .iconst 0, 1), (25, .putfield 252, 3), (28, .iconst 5, 1), (29, .iload_n 1, 1), (30, .imul, 1), (31, .istore_n 2, 1), (32, .iload_n 2, 1), (33, .iconst 5, 1), (34, .iload_n 1, 1), (35, .imul, 1), (36, .iconst 5, 1), (37, .iadd, 1), (38, .if_icmp .ge 34, 3), (41, .aload_n 0, 1), (42, .aload_n 0, 1), (43, .iload_n 2, 1), (44, .invokevirtual 83, 3), (47, .ifCond .ge 8, 3), (50, .bipush 46, 2), (52, .goto 11, 3), (55, .bipush 48, 2), (57, .aload_n 0, 1), (58, .iload_n 2, 1), (59, .invokevirtual 83, 3), (62, .iadd, 1), (63, .invokevirtual 258, 3), (66, .iinc 2 1, 3), (69, .goto (-37), 3), (72, .aload_n 0, 1), (73, .getfield 252, 3), (76, .ireturn, 1)]
set_option maxRecDepth 100000 in
theorem kX9_writeRow : dk_ok cX9_writeRow iX9_writeRow = true := by decide +kernel
def iX9_lineCharacter : dk_T := [(0, .aload_n 0, 1), (1, .iload_n 1, 1), (2, .iconst 0, 1), (3, .aload_n 0, 1), (4, .getfield 252, 3), (7, .iconst 1, 1), (8, .isub, 1), (9, .invokestatic 68, 3), (12, .ifCond .eq 7, 3), (15, .iconst 0, 1), (16, .goto 4, 3), (19, .iconst 1, 1), (20, .invokevirtual 80, 3), (23, .ifCond .eq 8, 3), (26, .bipush 32, 2), (28, .goto 9, 3), (31, .aload_n 0, 1), (32, .getfield 29, 3), (35, .iload_n 1, 1), (36, .caload, 1), (37, .ireturn, 1)]
set_option maxRecDepth 100000 in
theorem kX9_lineCharacter : dk_ok cX9_lineCharacter iX9_lineCharacter = true := by decide +kernel
def iX9_denial : dk_T := [(0, .aload_n 0, 1), (1, .aload_n 0, 1), (2, .getfield 46, 3), (5, .ifCond .ne 7, 3), (8, .iconst 1, 1), (9, .goto 4, 3), (12, .iconst 0, 1), (13, .invokevirtual 80, 3), (16, .ifCond .eq 7, 3), (19, .iconst 0, 1), (20, .goto 7, 3), (23, .aload_n 0, 1), (24, .getfield 46, 3), (27, .ireturn, 1)]
set_option maxRecDepth 100000 in
theorem kX9_denial : dk_ok cX9_denial iX9_denial = true := by decide +kernel
def iX9_denialDetail : dk_T := [(0, .aload_n 0, 1), (1, .aload_n 0, 1), (2, .getfield 46, 3), (5, .ifCond .ne 7, 3), (8, .iconst 1, 1), (9, .goto 4, 3), (12, .iconst 0, 1), (13, .invokevirtual 80, 3), (16, .ifCond .eq 7, 3), (19, .iconst 0, 1), (20, .goto 7, 3), (23, .aload_n 0, 1), (24, .getfield 49, 3), (27, .ireturn, 1)]
set_option maxRecDepth 100000 in
theorem kX9_denialDetail : dk_ok cX9_denialDetail iX9_denialDetail = true := by decide +kernel
def iX9_denialCause : dk_T := [(0, .aload_n 0, 1), (1, .aload_n 0, 1), (2, .getfield 52, 3), (5, .ifCond .ne 7, 3), (8, .iconst 1, 1), (9, .goto 4, 3), (12, .iconst 0, 1), (13, .invokevirtual 80, 3), (16, .ifCond .eq 7, 3), (19, .iconst 0, 1), (20, .goto 7, 3), (23, .aload_n 0, 1), (24, .getfield 52, 3), (27, .ireturn, 1)]
set_option maxRecDepth 100000 in
theorem kX9_denialCause : dk_ok cX9_denialCause iX9_denialCause = true := by decide +kernel
def iX9_denialCauseDetail : dk_T := [(0, .aload_n 0, 1), (1, .aload_n 0, 1), (2, .getfield 52, 3), (5, .ifCond .ne 7, 3), (8, .iconst 1, 1), (9, .goto 4, 3), (12, .iconst 0, 1), (13, .invokevirtual 80, 3), (16, .ifCond .eq 7, 3), (19, .iconst 0, 1), (20, .goto 7, 3), (23, .aload_n 0, 1), (24, .getfield 55, 3), (27, .ireturn, 1)]
set_option maxRecDepth 100000 in
theorem kX9_denialCauseDetail : dk_ok cX9_denialCauseDetail iX9_denialCauseDetail = true := by decide +kernel
def iX9_undo : dk_T := [(0, .aload_n 0, 1), (1, .aload_n 0, 1), (2, .getfield 61, 3), (5, .ifCond .ne 7, 3), (8, .iconst 1, 1), (9, .goto 4, 3), (12, .iconst 0, 1), (13, .invokevirtual 80, 3), (16, .ifCond .eq 5, 3), (19, .iconst 0, 1), (20, .ireturn, 1), (21, .aload_n 0, 1), (22, .dup, 1), (23, .getfield 61, 3), (26, .iconst 1, 1), (27, .isub, 1), (28, .putfield 61, 3), (31, .aload_n 0, 1), (32, .getfield 13, 3), (35, .sipush 219, 3), (38, .aload_n 0, 1), (39, .getfield 61, 3), (42, .imul, 1), (43, .aload_n 0, 1), (44, .getfield 7, 3), (47, .iconst 0, 1), (48, .invokestatic 64, 3), (51, .aload_n 0, 1), (52, .getfield 61, 3), (55, .ireturn, 1)]
set_option maxRecDepth 100000 in
theorem kX9_undo : dk_ok cX9_undo iX9_undo = true := by decide +kernel
def iX9_undoCount : dk_T := [(0, .aload_n 0, 1), (1, .iconst 0, 1), (2, .putfield 39, 3), (5, .aload_n 0, 1), (6, .getfield 61, 3), (9, .ireturn, 1)]
set_option maxRecDepth 100000 in
theorem kX9_undoCount : dk_ok cX9_undoCount iX9_undoCount = true := by decide +kernel
def iX9_saveSnapshot : dk_T := [(0, .aload_n 0, 1), (1, .iconst 0, 1), (2, .putfield 39, 3), (5, .aload_n 0, 1), (6, .iconst 1, 1), (7, .putfield 265, 3), (10, .aload_n 0, 1), (11, .getfield 7, 3), (14, .iconst 0, 1), (15, .aload_n 0, 1), (16, .getfield 16, 3), (19, .iconst 0, 1), (20, .invokestatic 64, 3), (23, .aload_n 0, 1), (24, .getfield 7, 3), (27, .iconst 3, 1), (28, .iaload, 1), (29, .ireturn, 1)]
set_option maxRecDepth 100000 in
theorem kX9_saveSnapshot : dk_ok cX9_saveSnapshot iX9_saveSnapshot = true := by decide +kernel
def iX9_restoreSnapshot : dk_T := [(0, .aload_n 0, 1), (1, .aload_n 0, 1), (2, .getfield 265, 3), (5, .ifCond .eq 7, 3), (8, .iconst 0, 1), (9, .goto 4, 3), (12, .iconst 1, 1), (13, .invokevirtual 80, 3), (16, .ifCond .eq 5, 3), (19, .iconst 0, 1), (20, .ireturn, 1), (21, .aload_n 0, 1), (22, .getfield 16, 3), (25, .iconst 0, 1), (26, .aload_n 0, 1), (27, .getfield 7, 3), (30, .iconst 0, 1), (31, .invokestatic 64, 3), (34, .aload_n 0, 1), (35, .iconst 0, 1), (36, .putfield 61, 3), (39, .aload_n 0, 1), (40, .getfield 7, 3), (43, .iconst 3, 1), (44, .iaload, 1), (45, .ireturn, 1)]
set_option maxRecDepth 100000 in
theorem kX9_restoreSnapshot : dk_ok cX9_restoreSnapshot iX9_restoreSnapshot = true := by decide +kernel
def iJx00060_init_a7421 : dk_T := [(0, .aload_n 0, 1), (1, .aload_n 1, 1), (2, .invokespecial 7, 3), (5, .return_, 1)]
set_option maxRecDepth 100000 in
theorem kJx00060_init_a7421 : dk_ok cJx00060_init_a7421 iJx00060_init_a7421 = true := by decide +kernel
def iJ6_bitCount_0f7a4 : dk_T := [(0, .iload_n 0, 1), (1, .iload_n 0, 1), (2, .iconst 1, 1), (3, .iushr, 1), (4, .ldc_w 265, 3), (7, .iand, 1), (8, .isub, 1), (9, .istore_n 0, 1), (10, .iload_n 0, 1), (11, .ldc_w 266, 3), (14, .iand, 1), (15, .iload_n 0, 1), (16, .iconst 2, 1), (17, .iushr, 1), (18, .ldc_w 266, 3), (21, .iand, 1), (22, .iadd, 1), (23, .istore_n 0, 1), (24, .iload_n 0, 1), (25, .iload_n 0, 1), (26, .iconst 4, 1), (27, .iushr, 1), (28, .iadd, 1), (29, .ldc_w 267, 3), (32, .iand, 1), (33, .istore_n 0, 1), (34, .iload_n 0, 1), (35, .iload_n 0, 1), (36, .bipush 8, 2), (38, .iushr, 1), (39, .iadd, 1), (40, .istore_n 0, 1), (41, .iload_n 0, 1), (42, .iload_n 0, 1), (43, .bipush 16, 2), (45, .iushr, 1), (46, .iadd, 1), (47, .istore_n 0, 1), (48, .iload_n 0, 1), (49, .bipush 63, 2), (51, .iand, 1), (52, .ireturn, 1)]
set_option maxRecDepth 100000 in
theorem kJ6_bitCount_0f7a4 : dk_ok cJ6_bitCount_0f7a4 iJ6_bitCount_0f7a4 = true := by decide +kernel
def iJ0_length_8abf5 : dk_T := [(0, .aload_n 0, 1), (1, .getfield 9, 3), (4, .arraylength, 1), (5, .aload_n 0, 1), (6, .invokevirtual 335, 3), (9, .ishr, 1), (10, .ireturn, 1)]
set_option maxRecDepth 100000 in
theorem kJ0_length_8abf5 : dk_ok cJ0_length_8abf5 iJ0_length_8abf5 = true := by decide +kernel
def iJ0_isEmpty_aae02 : dk_T := [(0, .aload_n 0, 1), (1, .getfield 9, 3), (4, .arraylength, 1), (5, .ifCond .ne 7, 3), (8, .iconst 1, 1), (9, .goto 4, 3), (12, .iconst 0, 1), (13, .ireturn, 1)]
set_option maxRecDepth 100000 in
theorem kJ0_isEmpty_aae02 : dk_ok cJ0_isEmpty_aae02 iJ0_isEmpty_aae02 = true := by decide +kernel
def iJ0_charAt_5068e : dk_T := [(0, .aload_n 0, 1), (1, .invokevirtual 492, 3), (4, .ifCond .eq 12, 3), (7, .aload_n 0, 1), (8, .getfield 9, 3), (11, .iload_n 1, 1), (12, .invokestatic 495, 3), (15, .ireturn, 1), (16, .aload_n 0, 1), (17, .getfield 9, 3), (20, .iload_n 1, 1), (21, .invokestatic 498, 3), (24, .ireturn, 1)]
set_option maxRecDepth 100000 in
theorem kJ0_charAt_5068e : dk_ok cJ0_charAt_5068e iJ0_charAt_5068e = true := by decide +kernel
def iJ0_coder_7d493 : dk_T := [(0, .getstatic 38, 3), (3, .ifCond .eq 10, 3), (6, .aload_n 0, 1), (7, .getfield 15, 3), (10, .goto 4, 3), (13, .iconst 1, 1), (14, .ireturn, 1)]
set_option maxRecDepth 100000 in
theorem kJ0_coder_7d493 : dk_ok cJ0_coder_7d493 iJ0_coder_7d493 = true := by decide +kernel
def iJ0_isLatin1_aae02 : dk_T := [(0, .getstatic 38, 3), (3, .ifCond .eq 14, 3), (6, .aload_n 0, 1), (7, .getfield 15, 3), (10, .ifCond .ne 7, 3), (13, .iconst 1, 1), (14, .goto 4, 3), (17, .iconst 0, 1), (18, .ireturn, 1)]
set_option maxRecDepth 100000 in
theorem kJ0_isLatin1_aae02 : dk_ok cJ0_isLatin1_aae02 iJ0_isLatin1_aae02 = true := by decide +kernel
def iJ0_checkIndex_df160 : dk_T := [(0, .iload_n 0, 1), (1, .iload_n 1, 1), (2, .getstatic 1053, 3), (5, .invokestatic 1059, 3), (8, .pop, 1), (9, .return_, 1)]
set_option maxRecDepth 100000 in
theorem kJ0_checkIndex_df160 : dk_ok cJ0_checkIndex_df160 iJ0_checkIndex_df160 = true := by decide +kernel
def iJ1_charAt_3b067 : dk_T := [(0, .iload_n 1, 1), (1, .aload_n 0, 1), (2, .arraylength, 1), (3, .invokestatic 9, 3), (6, .aload_n 0, 1), (7, .iload_n 1, 1), (8, .baload, 1), (9, .sipush 255, 3), (12, .iand, 1), (13, .i2c, 1), (14, .ireturn, 1)]
set_option maxRecDepth 100000 in
theorem kJ1_charAt_3b067 : dk_ok cJ1_charAt_3b067 iJ1_charAt_3b067 = true := by decide +kernel
def iJ2_getChar_3b067 : dk_T := [(0, .getstatic 44, 3), (3, .ifCond .ne 25, 3), (6, .iload_n 1, 1), (7, .ifCond .lt 11, 3), (10, .iload_n 1, 1), (11, .aload_n 0, 1), (12, .invokestatic 48, 3), (15, .if_icmp .lt 13, 3), (18, .new 52, 3), (21, .dup, 1), (22, .ldc 54, 2), (24, .invokespecial 56, 3), (27, .athrow, 1), (28, .iload_n 1, 1), (29, .iconst 1, 1), (30, .ishl, 1), (31, .istore_n 1, 1), (32, .aload_n 0, 1), (33, .iload_n 1, 1), (34, .iinc 1 1, 3), (37, .baload, 1), (38, .sipush 255, 3), (41, .iand, 1), (42, .getstatic 59, 3), (45, .ishl, 1), (46, .aload_n 0, 1), (47, .iload_n 1, 1), (48, .baload, 1), (49, .sipush 255, 3), (52, .iand, 1), (53, .getstatic 63, 3), (56, .ishl, 1), (57, .ior, 1), (58, .i2c, 1), (59, .ireturn, 1)]
set_option maxRecDepth 100000 in
theorem kJ2_getChar_3b067 : dk_ok cJ2_getChar_3b067 iJ2_getChar_3b067 = true := by decide +kernel
def iJ2_length_9d52b : dk_T := [(0, .aload_n 0, 1), (1, .arraylength, 1), (2, .iconst 1, 1), (3, .ishr, 1), (4, .ireturn, 1)]
set_option maxRecDepth 100000 in
theorem kJ2_length_9d52b : dk_ok cJ2_length_9d52b iJ2_length_9d52b = true := by decide +kernel
def iJ2_charAt_3b067 : dk_T := [(0, .iload_n 1, 1), (1, .aload_n 0, 1), (2, .invokestatic 67, 3), (5, .aload_n 0, 1), (6, .iload_n 1, 1), (7, .invokestatic 71, 3), (10, .ireturn, 1)]
set_option maxRecDepth 100000 in
theorem kJ2_charAt_3b067 : dk_ok cJ2_charAt_3b067 iJ2_charAt_3b067 = true := by decide +kernel
def iJ2_checkIndex_2214a : dk_T := [(0, .iload_n 0, 1), (1, .aload_n 1, 1), (2, .invokestatic 48, 3), (5, .invokestatic 414, 3), (8, .return_, 1)]
set_option maxRecDepth 100000 in
theorem kJ2_checkIndex_2214a : dk_ok cJ2_checkIndex_2214a iJ2_checkIndex_2214a = true := by decide +kernel
def iJ3_checkIndex_8e157 : dk_T := [(0, .iload_n 0, 1), (1, .ifCond .lt 8, 3), (4, .iload_n 0, 1), (5, .iload_n 1, 1), (6, .if_icmp .lt 10, 3), (9, .aload_n 2, 1), (10, .iload_n 0, 1), (11, .iload_n 1, 1), (12, .invokestatic 95, 3), (15, .athrow, 1), (16, .iload_n 0, 1), (17, .ireturn, 1)]
set_option maxRecDepth 100000 in
theorem kJ3_checkIndex_8e157 : dk_ok cJ3_checkIndex_8e157 iJ3_checkIndex_8e157 = true := by decide +kernel
def iL_addStone : dk_T := [(0, .aload_n 3, 1), (1, .iconst 0, 1), (2, .aload_n 0, 1), (3, .iload_n 1, 1), (4, .iload_n 2, 1), (5, .invokevirtual 7, 3), (8, .i2l, 1), (9, .lastore, 1), (10, .goto 15, 3), (13, .astore 4, 2), (15, .iconst 1, 1), (16, .ireturn, 1), (17, .astore 4, 2), (19, .iconst 2, 1), (20, .ireturn, 1), (21, .astore 4, 2), (23, .iconst 3, 1), (24, .ireturn, 1), (25, .iconst 0, 1), (26, .ireturn, 1)]
set_option maxRecDepth 100000 in
theorem kL_addStone : dk_ok cL_addStone iL_addStone = true := by decide +kernel
def iL_addOfficer : dk_T := [(0, .aload_n 2, 1), (1, .iconst 0, 1), (2, .aload_n 0, 1), (3, .iload_n 1, 1), (4, .invokevirtual 19, 3), (7, .i2l, 1), (8, .lastore, 1), (9, .goto 9, 3), (12, .astore_n 3, 1), (13, .iconst 1, 1), (14, .ireturn, 1), (15, .astore_n 3, 1), (16, .iconst 2, 1), (17, .ireturn, 1), (18, .iconst 0, 1), (19, .ireturn, 1)]
set_option maxRecDepth 100000 in
theorem kL_addOfficer : dk_ok cL_addOfficer iL_addOfficer = true := by decide +kernel
def iL_cellOf : dk_T := [(0, .aload_n 2, 1), (1, .iconst 0, 1), (2, .aload_n 0, 1), (3, .iload_n 1, 1), (4, .invokevirtual 23, 3), (7, .i2l, 1), (8, .lastore, 1), (9, .goto 6, 3), (12, .astore_n 3, 1), (13, .iconst 1, 1), (14, .ireturn, 1), (15, .iconst 0, 1), (16, .ireturn, 1)]
set_option maxRecDepth 100000 in
theorem kL_cellOf : dk_ok cL_cellOf iL_cellOf = true := by decide +kernel
def iL_weightOf : dk_T := [(0, .aload_n 2, 1), (1, .iconst 0, 1), (2, .aload_n 0, 1), (3, .iload_n 1, 1), (4, .invokevirtual 26, 3), (7, .i2l, 1), (8, .lastore, 1), (9, .goto 6, 3), (12, .astore_n 3, 1), (13, .iconst 1, 1), (14, .ireturn, 1), (15, .iconst 0, 1), (16, .ireturn, 1)]
set_option maxRecDepth 100000 in
theorem kL_weightOf : dk_ok cL_weightOf iL_weightOf = true := by decide +kernel
def iL_stoneIn : dk_T := [(0, .aload_n 2, 1), (1, .iconst 0, 1), (2, .aload_n 0, 1), (3, .iload_n 1, 1), (4, .invokevirtual 29, 3), (7, .i2l, 1), (8, .lastore, 1), (9, .goto 9, 3), (12, .astore_n 3, 1), (13, .iconst 1, 1), (14, .ireturn, 1), (15, .astore_n 3, 1), (16, .iconst 2, 1), (17, .ireturn, 1), (18, .iconst 0, 1), (19, .ireturn, 1)]
set_option maxRecDepth 100000 in
theorem kL_stoneIn : dk_ok cL_stoneIn iL_stoneIn = true := by decide +kernel
def iL_rankOf : dk_T := [(0, .aload_n 2, 1), (1, .iconst 0, 1), (2, .aload_n 0, 1), (3, .iload_n 1, 1), (4, .invokevirtual 34, 3), (7, .i2l, 1), (8, .lastore, 1), (9, .goto 6, 3), (12, .astore_n 3, 1), (13, .iconst 1, 1), (14, .ireturn, 1), (15, .iconst 0, 1), (16, .ireturn, 1)]
set_option maxRecDepth 100000 in
theorem kL_rankOf : dk_ok cL_rankOf iL_rankOf = true := by decide +kernel
def iL_petitionsOf : dk_T := [(0, .aload_n 2, 1), (1, .iconst 0, 1), (2, .aload_n 0, 1), (3, .iload_n 1, 1), (4, .invokevirtual 37, 3), (7, .i2l, 1), (8, .lastore, 1), (9, .goto 6, 3), (12, .astore_n 3, 1), (13, .iconst 1, 1), (14, .ireturn, 1), (15, .iconst 0, 1), (16, .ireturn, 1)]
set_option maxRecDepth 100000 in
theorem kL_petitionsOf : dk_ok cL_petitionsOf iL_petitionsOf = true := by decide +kernel
def iL_file : dk_T := [(0, .aload 5, 2), (2, .iconst 0, 1), (3, .aload_n 0, 1), (4, .iload_n 1, 1), (5, .iload_n 2, 1), (6, .iload_n 3, 1), (7, .iload 4, 2), (9, .invokevirtual 40, 3), (12, .i2l, 1), (13, .lastore, 1), (14, .goto 15, 3), (17, .astore 6, 2), (19, .iconst 1, 1), (20, .ireturn, 1), (21, .astore 6, 2), (23, .iconst 2, 1), (24, .ireturn, 1), (25, .astore 6, 2), (27, .iconst 3, 1), (28, .ireturn, 1), (29, .iconst 0, 1), (30, .ireturn, 1)]
set_option maxRecDepth 100000 in
theorem kL_file : dk_ok cL_file iL_file = true := by decide +kernel
def iL_vote : dk_T := [(0, .aload 4, 2), (2, .iconst 0, 1), (3, .aload_n 0, 1), (4, .iload_n 1, 1), (5, .iload_n 2, 1), (6, .iload_n 3, 1), (7, .invokevirtual 44, 3), (10, .i2l, 1), (11, .lastore, 1), (12, .goto 15, 3), (15, .astore 5, 2), (17, .iconst 1, 1), (18, .ireturn, 1), (19, .astore 5, 2), (21, .iconst 2, 1), (22, .ireturn, 1), (23, .astore 5, 2), (25, .iconst 3, 1), (26, .ireturn, 1), (27, .iconst 0, 1), (28, .ireturn, 1)]
set_option maxRecDepth 100000 in
theorem kL_vote : dk_ok cL_vote iL_vote = true := by decide +kernel
def iL_cite : dk_T := [(0, .aload_n 3, 1), (1, .iconst 0, 1), (2, .aload_n 0, 1), (3, .iload_n 1, 1), (4, .iload_n 2, 1), (5, .invokevirtual 48, 3), (8, .i2l, 1), (9, .lastore, 1), (10, .goto 11, 3), (13, .astore 4, 2), (15, .iconst 1, 1), (16, .ireturn, 1), (17, .astore 4, 2), (19, .iconst 2, 1), (20, .ireturn, 1), (21, .iconst 0, 1), (22, .ireturn, 1)]
set_option maxRecDepth 100000 in
theorem kL_cite : dk_ok cL_cite iL_cite = true := by decide +kernel
def iL_veto : dk_T := [(0, .aload_n 3, 1), (1, .iconst 0, 1), (2, .aload_n 0, 1), (3, .iload_n 1, 1), (4, .iload_n 2, 1), (5, .invokevirtual 51, 3), (8, .i2l, 1), (9, .lastore, 1), (10, .goto 15, 3), (13, .astore 4, 2), (15, .iconst 1, 1), (16, .ireturn, 1), (17, .astore 4, 2), (19, .iconst 2, 1), (20, .ireturn, 1), (21, .astore 4, 2), (23, .iconst 3, 1), (24, .ireturn, 1), (25, .iconst 0, 1), (26, .ireturn, 1)]
set_option maxRecDepth 100000 in
theorem kL_veto : dk_ok cL_veto iL_veto = true := by decide +kernel
def iL_withdraw : dk_T := [(0, .aload_n 2, 1), (1, .iconst 0, 1), (2, .aload_n 0, 1), (3, .iload_n 1, 1), (4, .invokevirtual 54, 3), (7, .i2l, 1), (8, .lastore, 1), (9, .goto 6, 3), (12, .astore_n 3, 1), (13, .iconst 1, 1), (14, .ireturn, 1), (15, .iconst 0, 1), (16, .ireturn, 1)]
set_option maxRecDepth 100000 in
theorem kL_withdraw : dk_ok cL_withdraw iL_withdraw = true := by decide +kernel
def iL_petitionAt : dk_T := [(0, .aload_n 2, 1), (1, .iconst 0, 1), (2, .aload_n 0, 1), (3, .iload_n 1, 1), (4, .invokevirtual 57, 3), (7, .i2l, 1), (8, .lastore, 1), (9, .goto 6, 3), (12, .astore_n 3, 1), (13, .iconst 1, 1), (14, .ireturn, 1), (15, .iconst 0, 1), (16, .ireturn, 1)]
set_option maxRecDepth 100000 in
theorem kL_petitionAt : dk_ok cL_petitionAt iL_petitionAt = true := by decide +kernel
def iL_positionOf : dk_T := [(0, .aload_n 2, 1), (1, .iconst 0, 1), (2, .aload_n 0, 1), (3, .iload_n 1, 1), (4, .invokevirtual 60, 3), (7, .i2l, 1), (8, .lastore, 1), (9, .goto 6, 3), (12, .astore_n 3, 1), (13, .iconst 1, 1), (14, .ireturn, 1), (15, .iconst 0, 1), (16, .ireturn, 1)]
set_option maxRecDepth 100000 in
theorem kL_positionOf : dk_ok cL_positionOf iL_positionOf = true := by decide +kernel
def iL_stoneOf : dk_T := [(0, .aload_n 2, 1), (1, .iconst 0, 1), (2, .aload_n 0, 1), (3, .iload_n 1, 1), (4, .invokevirtual 63, 3), (7, .i2l, 1), (8, .lastore, 1), (9, .goto 6, 3), (12, .astore_n 3, 1), (13, .iconst 1, 1), (14, .ireturn, 1), (15, .iconst 0, 1), (16, .ireturn, 1)]
set_option maxRecDepth 100000 in
theorem kL_stoneOf : dk_ok cL_stoneOf iL_stoneOf = true := by decide +kernel
def iL_targetOf : dk_T := [(0, .aload_n 2, 1), (1, .iconst 0, 1), (2, .aload_n 0, 1), (3, .iload_n 1, 1), (4, .invokevirtual 66, 3), (7, .i2l, 1), (8, .lastore, 1), (9, .goto 6, 3), (12, .astore_n 3, 1), (13, .iconst 1, 1), (14, .ireturn, 1), (15, .iconst 0, 1), (16, .ireturn, 1)]
set_option maxRecDepth 100000 in
theorem kL_targetOf : dk_ok cL_targetOf iL_targetOf = true := by decide +kernel
def iL_votesFor : dk_T := [(0, .aload_n 2, 1), (1, .iconst 0, 1), (2, .aload_n 0, 1), (3, .iload_n 1, 1), (4, .invokevirtual 69, 3), (7, .i2l, 1), (8, .lastore, 1), (9, .goto 6, 3), (12, .astore_n 3, 1), (13, .iconst 1, 1), (14, .ireturn, 1), (15, .iconst 0, 1), (16, .ireturn, 1)]
set_option maxRecDepth 100000 in
theorem kL_votesFor : dk_ok cL_votesFor iL_votesFor = true := by decide +kernel
def iL_votesAgainst : dk_T := [(0, .aload_n 2, 1), (1, .iconst 0, 1), (2, .aload_n 0, 1), (3, .iload_n 1, 1), (4, .invokevirtual 72, 3), (7, .i2l, 1), (8, .lastore, 1), (9, .goto 6, 3), (12, .astore_n 3, 1), (13, .iconst 1, 1), (14, .ireturn, 1), (15, .iconst 0, 1), (16, .ireturn, 1)]
set_option maxRecDepth 100000 in
theorem kL_votesAgainst : dk_ok cL_votesAgainst iL_votesAgainst = true := by decide +kernel
def iL_wouldBeGranted : dk_T := [(0, .aload_n 2, 1), (1, .iconst 0, 1), (2, .aload_n 0, 1), (3, .iload_n 1, 1), (4, .invokevirtual 75, 3), (7, .ifCond .eq 7, 3), (10, .lconst 1, 1), (11, .goto 4, 3), (14, .lconst 0, 1), (15, .lastore, 1), (16, .goto 6, 3), (19, .astore_n 3, 1), (20, .iconst 1, 1), (21, .ireturn, 1), (22, .iconst 0, 1), (23, .ireturn, 1)]
set_option maxRecDepth 100000 in
theorem kL_wouldBeGranted : dk_ok cL_wouldBeGranted iL_wouldBeGranted = true := by decide +kernel
def iL_setQuorum : dk_T := [(0, .aload_n 2, 1), (1, .iconst 0, 1), (2, .aload_n 0, 1), (3, .iload_n 1, 1), (4, .invokevirtual 79, 3), (7, .i2l, 1), (8, .lastore, 1), (9, .goto 9, 3), (12, .astore_n 3, 1), (13, .iconst 1, 1), (14, .ireturn, 1), (15, .astore_n 3, 1), (16, .iconst 2, 1), (17, .ireturn, 1), (18, .iconst 0, 1), (19, .ireturn, 1)]
set_option maxRecDepth 100000 in
theorem kL_setQuorum : dk_ok cL_setQuorum iL_setQuorum = true := by decide +kernel
def iL_decide : dk_T := [(0, .aload_n 1, 1), (1, .iconst 0, 1), (2, .aload_n 0, 1), (3, .invokevirtual 82, 3), (6, .i2l, 1), (7, .lastore, 1), (8, .goto 6, 3), (11, .astore_n 2, 1), (12, .iconst 1, 1), (13, .ireturn, 1), (14, .iconst 0, 1), (15, .ireturn, 1)]
set_option maxRecDepth 100000 in
theorem kL_decide : dk_ok cL_decide iL_decide = true := by decide +kernel
def iL_isGranted : dk_T := [(0, .aload_n 2, 1), (1, .iconst 0, 1), (2, .aload_n 0, 1), (3, .iload_n 1, 1), (4, .invokevirtual 86, 3), (7, .ifCond .eq 7, 3), (10, .lconst 1, 1), (11, .goto 4, 3), (14, .lconst 0, 1), (15, .lastore, 1), (16, .goto 6, 3), (19, .astore_n 3, 1), (20, .iconst 1, 1), (21, .ireturn, 1), (22, .iconst 0, 1), (23, .ireturn, 1)]
set_option maxRecDepth 100000 in
theorem kL_isGranted : dk_ok cL_isGranted iL_isGranted = true := by decide +kernel
def iL_isCarriedOut : dk_T := [(0, .aload_n 2, 1), (1, .iconst 0, 1), (2, .aload_n 0, 1), (3, .iload_n 1, 1), (4, .invokevirtual 89, 3), (7, .ifCond .eq 7, 3), (10, .lconst 1, 1), (11, .goto 4, 3), (14, .lconst 0, 1), (15, .lastore, 1), (16, .goto 6, 3), (19, .astore_n 3, 1), (20, .iconst 1, 1), (21, .ireturn, 1), (22, .iconst 0, 1), (23, .ireturn, 1)]
set_option maxRecDepth 100000 in
theorem kL_isCarriedOut : dk_ok cL_isCarriedOut iL_isCarriedOut = true := by decide +kernel
def iL_citationCount : dk_T := [(0, .aload_n 2, 1), (1, .iconst 0, 1), (2, .aload_n 0, 1), (3, .iload_n 1, 1), (4, .invokevirtual 92, 3), (7, .i2l, 1), (8, .lastore, 1), (9, .goto 6, 3), (12, .astore_n 3, 1), (13, .iconst 1, 1), (14, .ireturn, 1), (15, .iconst 0, 1), (16, .ireturn, 1)]
set_option maxRecDepth 100000 in
theorem kL_citationCount : dk_ok cL_citationCount iL_citationCount = true := by decide +kernel
def iL_citation : dk_T := [(0, .aload_n 3, 1), (1, .iconst 0, 1), (2, .aload_n 0, 1), (3, .iload_n 1, 1), (4, .iload_n 2, 1), (5, .invokevirtual 95, 3), (8, .i2l, 1), (9, .lastore, 1), (10, .goto 11, 3), (13, .astore 4, 2), (15, .iconst 1, 1), (16, .ireturn, 1), (17, .astore 4, 2), (19, .iconst 2, 1), (20, .ireturn, 1), (21, .iconst 0, 1), (22, .ireturn, 1)]
set_option maxRecDepth 100000 in
theorem kL_citation : dk_ok cL_citation iL_citation = true := by decide +kernel
def iL_citedBy : dk_T := [(0, .aload_n 2, 1), (1, .iconst 0, 1), (2, .aload_n 0, 1), (3, .iload_n 1, 1), (4, .invokevirtual 98, 3), (7, .i2l, 1), (8, .lastore, 1), (9, .goto 6, 3), (12, .astore_n 3, 1), (13, .iconst 1, 1), (14, .ireturn, 1), (15, .iconst 0, 1), (16, .ireturn, 1)]
set_option maxRecDepth 100000 in
theorem kL_citedBy : dk_ok cL_citedBy iL_citedBy = true := by decide +kernel
def iL_depth : dk_T := [(0, .aload_n 2, 1), (1, .iconst 0, 1), (2, .aload_n 0, 1), (3, .iload_n 1, 1), (4, .invokevirtual 101, 3), (7, .i2l, 1), (8, .lastore, 1), (9, .goto 6, 3), (12, .astore_n 3, 1), (13, .iconst 1, 1), (14, .ireturn, 1), (15, .iconst 0, 1), (16, .ireturn, 1)]
set_option maxRecDepth 100000 in
theorem kL_depth : dk_ok cL_depth iL_depth = true := by decide +kernel
def iL_isBasedOn : dk_T := [(0, .aload_n 3, 1), (1, .iconst 0, 1), (2, .aload_n 0, 1), (3, .iload_n 1, 1), (4, .iload_n 2, 1), (5, .invokevirtual 104, 3), (8, .ifCond .eq 7, 3), (11, .lconst 1, 1), (12, .goto 4, 3), (15, .lconst 0, 1), (16, .lastore, 1), (17, .goto 7, 3), (20, .astore 4, 2), (22, .iconst 1, 1), (23, .ireturn, 1), (24, .iconst 0, 1), (25, .ireturn, 1)]
set_option maxRecDepth 100000 in
theorem kL_isBasedOn : dk_ok cL_isBasedOn iL_isBasedOn = true := by decide +kernel
def iL_influence : dk_T := [(0, .aload_n 2, 1), (1, .iconst 0, 1), (2, .aload_n 0, 1), (3, .iload_n 1, 1), (4, .invokevirtual 108, 3), (7, .i2l, 1), (8, .lastore, 1), (9, .goto 6, 3), (12, .astore_n 3, 1), (13, .iconst 1, 1), (14, .ireturn, 1), (15, .iconst 0, 1), (16, .ireturn, 1)]
set_option maxRecDepth 100000 in
theorem kL_influence : dk_ok cL_influence iL_influence = true := by decide +kernel
def iL_influenceByMarking : dk_T := [(0, .aload_n 2, 1), (1, .iconst 0, 1), (2, .aload_n 0, 1), (3, .iload_n 1, 1), (4, .invokevirtual 111, 3), (7, .i2l, 1), (8, .lastore, 1), (9, .goto 6, 3), (12, .astore_n 3, 1), (13, .iconst 1, 1), (14, .ireturn, 1), (15, .iconst 0, 1), (16, .ireturn, 1)]
set_option maxRecDepth 100000 in
theorem kL_influenceByMarking : dk_ok cL_influenceByMarking iL_influenceByMarking = true := by decide +kernel
def iL_rulingByInfluence : dk_T := [(0, .aload_n 2, 1), (1, .iconst 0, 1), (2, .aload_n 0, 1), (3, .iload_n 1, 1), (4, .invokevirtual 114, 3), (7, .i2l, 1), (8, .lastore, 1), (9, .goto 6, 3), (12, .astore_n 3, 1), (13, .iconst 1, 1), (14, .ireturn, 1), (15, .iconst 0, 1), (16, .ireturn, 1)]
set_option maxRecDepth 100000 in
theorem kL_rulingByInfluence : dk_ok cL_rulingByInfluence iL_rulingByInfluence = true := by decide +kernel
def iL_meanVotes : dk_T := [(0, .aload_n 1, 1), (1, .iconst 0, 1), (2, .aload_n 0, 1), (3, .invokevirtual 117, 3), (6, .dastore, 1), (7, .goto 6, 3), (10, .astore_n 2, 1), (11, .iconst 1, 1), (12, .ireturn, 1), (13, .iconst 0, 1), (14, .ireturn, 1)]
set_option maxRecDepth 100000 in
theorem kL_meanVotes : dk_ok cL_meanVotes iL_meanVotes = true := by decide +kernel
def iL_grantedShare : dk_T := [(0, .aload_n 1, 1), (1, .iconst 0, 1), (2, .aload_n 0, 1), (3, .invokevirtual 123, 3), (6, .f2d, 1), (7, .dastore, 1), (8, .goto 6, 3), (11, .astore_n 2, 1), (12, .iconst 1, 1), (13, .ireturn, 1), (14, .iconst 0, 1), (15, .ireturn, 1)]
set_option maxRecDepth 100000 in
theorem kL_grantedShare : dk_ok cL_grantedShare iL_grantedShare = true := by decide +kernel
def iL_feed : dk_T := [(0, .aload_n 2, 1), (1, .iconst 0, 1), (2, .aload_n 0, 1), (3, .iload_n 1, 1), (4, .invokevirtual 127, 3), (7, .i2l, 1), (8, .lastore, 1), (9, .goto 6, 3), (12, .astore_n 3, 1), (13, .iconst 1, 1), (14, .ireturn, 1), (15, .iconst 0, 1), (16, .ireturn, 1)]
set_option maxRecDepth 100000 in
theorem kL_feed : dk_ok cL_feed iL_feed = true := by decide +kernel
def iL_execute : dk_T := [(0, .aload_n 1, 1), (1, .iconst 0, 1), (2, .aload_n 0, 1), (3, .invokevirtual 133, 3), (6, .i2l, 1), (7, .lastore, 1), (8, .goto 9, 3), (11, .astore_n 2, 1), (12, .iconst 1, 1), (13, .ireturn, 1), (14, .astore_n 2, 1), (15, .iconst 2, 1), (16, .ireturn, 1), (17, .iconst 0, 1), (18, .ireturn, 1)]
set_option maxRecDepth 100000 in
theorem kL_execute : dk_ok cL_execute iL_execute = true := by decide +kernel
def iL_faultPosition : dk_T := [(0, .aload_n 1, 1), (1, .iconst 0, 1), (2, .aload_n 0, 1), (3, .invokevirtual 136, 3), (6, .i2l, 1), (7, .lastore, 1), (8, .goto 6, 3), (11, .astore_n 2, 1), (12, .iconst 1, 1), (13, .ireturn, 1), (14, .iconst 0, 1), (15, .ireturn, 1)]
set_option maxRecDepth 100000 in
theorem kL_faultPosition : dk_ok cL_faultPosition iL_faultPosition = true := by decide +kernel
def iL_writePetition : dk_T := [(0, .aload_n 2, 1), (1, .iconst 0, 1), (2, .aload_n 0, 1), (3, .iload_n 1, 1), (4, .invokevirtual 139, 3), (7, .i2l, 1), (8, .lastore, 1), (9, .goto 6, 3), (12, .astore_n 3, 1), (13, .iconst 1, 1), (14, .ireturn, 1), (15, .iconst 0, 1), (16, .ireturn, 1)]
set_option maxRecDepth 100000 in
theorem kL_writePetition : dk_ok cL_writePetition iL_writePetition = true := by decide +kernel
def iL_writeRow : dk_T := [(0, .aload_n 2, 1), (1, .iconst 0, 1), (2, .aload_n 0, 1), (3, .iload_n 1, 1), (4, .invokevirtual 142, 3), (7, .i2l, 1), (8, .lastore, 1), (9, .goto 6, 3), (12, .astore_n 3, 1), (13, .iconst 1, 1), (14, .ireturn, 1), (15, .iconst 0, 1), (16, .ireturn, 1)]
set_option maxRecDepth 100000 in
theorem kL_writeRow : dk_ok cL_writeRow iL_writeRow = true := by decide +kernel
def iL_lineCharacter : dk_T := [(0, .aload_n 2, 1), (1, .iconst 0, 1), (2, .aload_n 0, 1), (3, .iload_n 1, 1), (4, .invokevirtual 145, 3), (7, .i2l, 1), (8, .lastore, 1), (9, .goto 6, 3), (12, .astore_n 3, 1), (13, .iconst 1, 1), (14, .ireturn, 1), (15, .iconst 0, 1), (16, .ireturn, 1)]
set_option maxRecDepth 100000 in
theorem kL_lineCharacter : dk_ok cL_lineCharacter iL_lineCharacter = true := by decide +kernel
def iL_denial : dk_T := [(0, .aload_n 1, 1), (1, .iconst 0, 1), (2, .aload_n 0, 1), (3, .invokevirtual 149, 3), (6, .i2l, 1), (7, .lastore, 1), (8, .goto 6, 3), (11, .astore_n 2, 1), (12, .iconst 1, 1), (13, .ireturn, 1), (14, .iconst 0, 1), (15, .ireturn, 1)]
set_option maxRecDepth 100000 in
theorem kL_denial : dk_ok cL_denial iL_denial = true := by decide +kernel
def iL_denialDetail : dk_T := [(0, .aload_n 1, 1), (1, .iconst 0, 1), (2, .aload_n 0, 1), (3, .invokevirtual 152, 3), (6, .i2l, 1), (7, .lastore, 1), (8, .goto 6, 3), (11, .astore_n 2, 1), (12, .iconst 1, 1), (13, .ireturn, 1), (14, .iconst 0, 1), (15, .ireturn, 1)]
set_option maxRecDepth 100000 in
theorem kL_denialDetail : dk_ok cL_denialDetail iL_denialDetail = true := by decide +kernel
def iL_denialCause : dk_T := [(0, .aload_n 1, 1), (1, .iconst 0, 1), (2, .aload_n 0, 1), (3, .invokevirtual 155, 3), (6, .i2l, 1), (7, .lastore, 1), (8, .goto 6, 3), (11, .astore_n 2, 1), (12, .iconst 1, 1), (13, .ireturn, 1), (14, .iconst 0, 1), (15, .ireturn, 1)]
set_option maxRecDepth 100000 in
theorem kL_denialCause : dk_ok cL_denialCause iL_denialCause = true := by decide +kernel
def iL_denialCauseDetail : dk_T := [(0, .aload_n 1, 1), (1, .iconst 0, 1), (2, .aload_n 0, 1), (3, .invokevirtual 158, 3), (6, .i2l, 1), (7, .lastore, 1), (8, .goto 6, 3), (11, .astore_n 2, 1), (12, .iconst 1, 1), (13, .ireturn, 1), (14, .iconst 0, 1), (15, .ireturn, 1)]
set_option maxRecDepth 100000 in
theorem kL_denialCauseDetail : dk_ok cL_denialCauseDetail iL_denialCauseDetail = true := by decide +kernel
def iL_undo : dk_T := [(0, .aload_n 1, 1), (1, .iconst 0, 1), (2, .aload_n 0, 1), (3, .invokevirtual 161, 3), (6, .i2l, 1), (7, .lastore, 1), (8, .goto 6, 3), (11, .astore_n 2, 1), (12, .iconst 1, 1), (13, .ireturn, 1), (14, .iconst 0, 1), (15, .ireturn, 1)]
set_option maxRecDepth 100000 in
theorem kL_undo : dk_ok cL_undo iL_undo = true := by decide +kernel
def iL_restoreSnapshot : dk_T := [(0, .aload_n 1, 1), (1, .iconst 0, 1), (2, .aload_n 0, 1), (3, .invokevirtual 164, 3), (6, .i2l, 1), (7, .lastore, 1), (8, .goto 6, 3), (11, .astore_n 2, 1), (12, .iconst 1, 1), (13, .ireturn, 1), (14, .iconst 0, 1), (15, .ireturn, 1)]
set_option maxRecDepth 100000 in
theorem kL_restoreSnapshot : dk_ok cL_restoreSnapshot iL_restoreSnapshot = true := by decide +kernel
