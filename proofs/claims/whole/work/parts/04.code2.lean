def k_X9_init : List (List (Option AmI)) := [[some (.aload_n 0, 1, .null), some (.invokespecial 3, 3, .null), none, none, some (.aload_n 0, 1, .null), some (.iconst 1, 1, .int 1), some (.iload_n 1, 1, .null), some (.invokestatic 9, 3, .null)],
  [none, none, some (.putfield 15, 3, .null), none, none, some (.bipush 33, 2, .int 33), none, some (.aload_n 0, 1, .null)],
  [some (.getfield 15, 3, .null), none, none, some (.invokestatic 21, 3, .null), none, none, some (.isub, 1, .null), some (.istore_n 2, 1, .null)],
  [some (.aload_n 0, 1, .null), some (.bipush 32, 2, .int 32), none, some (.iload_n 2, 1, .null), some (.isub, 1, .null), some (.putfield 27, 3, .null), none, none],
  [some (.aload_n 0, 1, .null), some (.iconst 1, 1, .int 1), some (.iload_n 2, 1, .null), some (.ishl, 1, .null), some (.newarray .int, 2, .null), none, some (.putfield 30, 3, .null), none],
  [none, some (.aload_n 0, 1, .null), some (.aload_n 0, 1, .null), some (.getfield 15, 3, .null), none, none, some (.newarray .int, 2, .null), none],
  [some (.putfield 34, 3, .null), none, none, some (.aload_n 0, 1, .null), some (.aload_n 0, 1, .null), some (.getfield 15, 3, .null), none, none],
  [some (.newarray .int, 2, .null), none, some (.putfield 37, 3, .null), none, none, some (.return_, 1, .null)]]
def m_X9_init : AmM := (yX9_init, cX9_init, 9, 3, none, k_X9_init)
def k_X9_add : List (List (Option AmI)) := [[some (.iload_n 1, 1, .null), some (.ldc 40, 2, .int (-1640531535)), none, some (.imul, 1, .null), some (.aload_n 0, 1, .null), some (.getfield 27, 3, .null), none, none],
  [some (.iushr, 1, .null), some (.istore_n 2, 1, .null), some (.iconst 0, 1, .int 0), some (.istore_n 3, 1, .null), some (.iload_n 3, 1, .null), some (.aload_n 0, 1, .null), some (.getfield 30, 3, .null), none],
  [none, some (.arraylength, 1, .null), some (.if_icmp .ge 118, 3, .null), none, none, some (.aload_n 0, 1, .null), some (.getfield 30, 3, .null), none],
  [none, some (.iload_n 2, 1, .null), some (.iaload, 1, .null), some (.istore 4, 2, .null), none, some (.iload 4, 2, .null), none, some (.aload_n 0, 1, .null)],
  [some (.getfield 41, 3, .null), none, none, some (.if_icmp .ge 14, 3, .null), none, none, some (.aload_n 0, 1, .null), some (.getfield 34, 3, .null)],
  [none, none, some (.iload 4, 2, .null), none, some (.iaload, 1, .null), some (.iload_n 2, 1, .null), some (.if_icmp .eq 58, 3, .null), none],
  [none, some (.aload_n 0, 1, .null), some (.getfield 41, 3, .null), none, none, some (.aload_n 0, 1, .null), some (.getfield 15, 3, .null), none],
  [none, some (.if_icmp .lt 5, 3, .null), none, none, some (.iconst (-1), 1, .int (-1)), some (.ireturn, 1, .null), some (.aload_n 0, 1, .null), some (.getfield 30, 3, .null)],
  [none, none, some (.iload_n 2, 1, .null), some (.aload_n 0, 1, .null), some (.getfield 41, 3, .null), none, none, some (.iastore, 1, .null)],
  [some (.aload_n 0, 1, .null), some (.getfield 34, 3, .null), none, none, some (.aload_n 0, 1, .null), some (.getfield 41, 3, .null), none, none],
  [some (.iload_n 2, 1, .null), some (.iastore, 1, .null), some (.aload_n 0, 1, .null), some (.getfield 37, 3, .null), none, none, some (.aload_n 0, 1, .null), some (.getfield 41, 3, .null)],
  [none, none, some (.iload_n 1, 1, .null), some (.iastore, 1, .null), some (.aload_n 0, 1, .null), some (.dup, 1, .null), some (.getfield 41, 3, .null), none],
  [none, some (.dup_x1, 1, .null), some (.iconst 1, 1, .int 1), some (.iadd, 1, .null), some (.putfield 41, 3, .null), none, none, some (.ireturn, 1, .null)],
  [some (.aload_n 0, 1, .null), some (.getfield 37, 3, .null), none, none, some (.iload 4, 2, .null), none, some (.iaload, 1, .null), some (.iload_n 1, 1, .null)],
  [some (.if_icmp .ne 6, 3, .null), none, none, some (.iload 4, 2, .null), none, some (.ireturn, 1, .null), some (.iload_n 2, 1, .null), some (.iconst 1, 1, .int 1)],
  [some (.iadd, 1, .null), some (.aload_n 0, 1, .null), some (.getfield 30, 3, .null), none, none, some (.arraylength, 1, .null), some (.iconst 1, 1, .int 1), some (.isub, 1, .null)],
  [some (.iand, 1, .null), some (.istore_n 2, 1, .null), some (.iinc 3 1, 3, .int 1), none, none, some (.goto (-121), 3, .null), none, none],
  [some (.iconst (-1), 1, .int (-1)), some (.ireturn, 1, .null)]]
def m_X9_add : AmM := (yX9_add, cX9_add, 9, 5, (some .int), k_X9_add)
def k_X9_sort : List (List (Option AmI)) := [[some (.aload_n 0, 1, .null), some (.getfield 41, 3, .null), none, none, some (.iconst 2, 1, .int 2), some (.idiv, 1, .null), some (.istore_n 1, 1, .null), some (.iload_n 1, 1, .null)],
  [some (.ifCond .le 88, 3, .null), none, none, some (.iload_n 1, 1, .null), some (.istore_n 2, 1, .null), some (.iload_n 2, 1, .null), some (.aload_n 0, 1, .null), some (.getfield 41, 3, .null)],
  [none, none, some (.if_icmp .ge 71, 3, .null), none, none, some (.aload_n 0, 1, .null), some (.getfield 37, 3, .null), none],
  [none, some (.iload_n 2, 1, .null), some (.iaload, 1, .null), some (.istore_n 3, 1, .null), some (.iload_n 2, 1, .null), some (.istore 4, 2, .null), none, some (.iload 4, 2, .null)],
  [none, some (.iload_n 1, 1, .null), some (.if_icmp .lt 41, 3, .null), none, none, some (.aload_n 0, 1, .null), some (.getfield 37, 3, .null), none],
  [none, some (.iload 4, 2, .null), none, some (.iload_n 1, 1, .null), some (.isub, 1, .null), some (.iaload, 1, .null), some (.iload_n 3, 1, .null), some (.if_icmp .le 28, 3, .null)],
  [none, none, some (.aload_n 0, 1, .null), some (.getfield 37, 3, .null), none, none, some (.iload 4, 2, .null), none],
  [some (.aload_n 0, 1, .null), some (.getfield 37, 3, .null), none, none, some (.iload 4, 2, .null), none, some (.iload_n 1, 1, .null), some (.isub, 1, .null)],
  [some (.iaload, 1, .null), some (.iastore, 1, .null), some (.iload 4, 2, .null), none, some (.iload_n 1, 1, .null), some (.isub, 1, .null), some (.istore 4, 2, .null), none],
  [some (.goto (-41), 3, .null), none, none, some (.aload_n 0, 1, .null), some (.getfield 37, 3, .null), none, none, some (.iload 4, 2, .null)],
  [none, some (.iload_n 3, 1, .null), some (.iastore, 1, .null), some (.iinc 2 1, 3, .int 1), none, none, some (.goto (-73), 3, .null), none],
  [none, some (.iload_n 1, 1, .null), some (.iconst 2, 1, .int 2), some (.idiv, 1, .null), some (.istore_n 1, 1, .null), some (.goto (-86), 3, .null), none, none],
  [some (.return_, 1, .null)]]
def m_X9_sort : AmM := (yX9_sort, cX9_sort, 9, 5, none, k_X9_sort)
def k_X9_answer : List (List (Option AmI)) := [[some (.iload_n 1, 1, .null), some (.iconst (-1), 1, .int (-1)), some (.if_icmp .ne 8, 3, .null), none, none, some (.aload_n 0, 1, .null), some (.getfield 41, 3, .null), none],
  [none, some (.ireturn, 1, .null), some (.iload_n 1, 1, .null), some (.ifCond .lt 20, 3, .null), none, none, some (.iload_n 1, 1, .null), some (.aload_n 0, 1, .null)],
  [some (.getfield 41, 3, .null), none, none, some (.if_icmp .ge 12, 3, .null), none, none, some (.aload_n 0, 1, .null), some (.getfield 37, 3, .null)],
  [none, none, some (.iload_n 1, 1, .null), some (.iaload, 1, .null), some (.goto 4, 3, .null), none, none, some (.iconst (-1), 1, .int (-1))],
  [some (.ireturn, 1, .null)]]
def m_X9_answer : AmM := (yX9_answer, cX9_answer, 9, 2, (some .int), k_X9_answer)
def k_X9_fullest : List (List (Option AmI)) := [[some (.iconst (-1), 1, .int (-1)), some (.istore_n 1, 1, .null), some (.iconst (-1), 1, .int (-1)), some (.istore_n 2, 1, .null), some (.iconst 0, 1, .int 0), some (.istore_n 3, 1, .null), some (.iload_n 3, 1, .null), some (.aload_n 0, 1, .null)],
  [some (.getfield 41, 3, .null), none, none, some (.if_icmp .ge 31, 3, .null), none, none, some (.aload_n 0, 1, .null), some (.getfield 37, 3, .null)],
  [none, none, some (.iload_n 3, 1, .null), some (.iaload, 1, .null), some (.invokestatic 44, 3, .null), none, none, some (.istore 4, 2, .null)],
  [none, some (.iload 4, 2, .null), none, some (.iload_n 2, 1, .null), some (.if_icmp .le 8, 3, .null), none, none, some (.iload 4, 2, .null)],
  [none, some (.istore_n 2, 1, .null), some (.iload_n 3, 1, .null), some (.istore_n 1, 1, .null), some (.iinc 3 1, 3, .int 1), none, none, some (.goto (-33), 3, .null)],
  [none, none, some (.iload_n 1, 1, .null), some (.ireturn, 1, .null)]]
def m_X9_fullest : AmM := (yX9_fullest, cX9_fullest, 9, 5, (some .int), k_X9_fullest)
def k_X9_emptiest : List (List (Option AmI)) := [[some (.iconst (-1), 1, .int (-1)), some (.istore_n 1, 1, .null), some (.iconst 0, 1, .int 0), some (.istore_n 2, 1, .null), some (.iconst 0, 1, .int 0), some (.istore_n 3, 1, .null), some (.iload_n 3, 1, .null), some (.aload_n 0, 1, .null)],
  [some (.getfield 41, 3, .null), none, none, some (.if_icmp .ge 36, 3, .null), none, none, some (.aload_n 0, 1, .null), some (.getfield 37, 3, .null)],
  [none, none, some (.iload_n 3, 1, .null), some (.iaload, 1, .null), some (.invokestatic 44, 3, .null), none, none, some (.istore 4, 2, .null)],
  [none, some (.iload_n 1, 1, .null), some (.iconst (-1), 1, .int (-1)), some (.if_icmp .eq 9, 3, .null), none, none, some (.iload 4, 2, .null), none],
  [some (.iload_n 2, 1, .null), some (.if_icmp .ge 8, 3, .null), none, none, some (.iload 4, 2, .null), none, some (.istore_n 2, 1, .null), some (.iload_n 3, 1, .null)],
  [some (.istore_n 1, 1, .null), some (.iinc 3 1, 3, .int 1), none, none, some (.goto (-38), 3, .null), none, none, some (.iload_n 1, 1, .null)],
  [some (.ireturn, 1, .null)]]
def m_X9_emptiest : AmM := (yX9_emptiest, cX9_emptiest, 9, 5, (some .int), k_X9_emptiest)
def k_X10_number : List (List (Option AmI)) := [[some (.iload_n 0, 1, .null), some (.sipush 3125, 3, .int 3125), none, none, some (.imul, 1, .null), some (.iload_n 1, 1, .null), some (.iadd, 1, .null), some (.bipush 16, 2, .int 16)],
  [none, some (.imul, 1, .null), some (.iload_n 2, 1, .null), some (.iadd, 1, .null), some (.ireturn, 1, .null)]]
def m_X10_number : AmM := (yX10_number, cX10_number, 10, 3, (some .int), k_X10_number)
def k_X10_pipeOf : List (List (Option AmI)) := [[some (.iload_n 0, 1, .null), some (.bipush 16, 2, .int 16), none, some (.idiv, 1, .null), some (.istore_n 2, 1, .null), some (.iload_n 1, 1, .null), some (.ifCond .ne 11, 3, .null), none],
  [none, some (.iload_n 2, 1, .null), some (.sipush 3125, 3, .int 3125), none, none, some (.idiv, 1, .null), some (.goto 8, 3, .null), none],
  [none, some (.iload_n 2, 1, .null), some (.sipush 3125, 3, .int 3125), none, none, some (.irem, 1, .null), some (.ireturn, 1, .null)]]
def m_X10_pipeOf : AmM := (yX10_pipeOf, cX10_pipeOf, 10, 3, (some .int), k_X10_pipeOf)
def k_X10_trayOf : List (List (Option AmI)) := [[some (.iload_n 0, 1, .null), some (.bipush 16, 2, .int 16), none, some (.irem, 1, .null), some (.ireturn, 1, .null)]]
def m_X10_trayOf : AmM := (yX10_trayOf, cX10_trayOf, 10, 1, (some .int), k_X10_trayOf)
def k_X10_withPipe : List (List (Option AmI)) := [[some (.iload_n 1, 1, .null), some (.ifCond .ne 19, 3, .null), none, none, some (.iload_n 2, 1, .null), some (.iload_n 0, 1, .null), some (.iconst 1, 1, .int 1), some (.invokestatic 11, 3, .null)],
  [none, none, some (.iload_n 0, 1, .null), some (.invokestatic 15, 3, .null), none, none, some (.invokestatic 19, 3, .null), none],
  [none, some (.goto 16, 3, .null), none, none, some (.iload_n 0, 1, .null), some (.iconst 0, 1, .int 0), some (.invokestatic 11, 3, .null), none],
  [none, some (.iload_n 2, 1, .null), some (.iload_n 0, 1, .null), some (.invokestatic 15, 3, .null), none, none, some (.invokestatic 19, 3, .null), none],
  [none, some (.ireturn, 1, .null)]]
def m_X10_withPipe : AmM := (yX10_withPipe, cX10_withPipe, 10, 3, (some .int), k_X10_withPipe)
def k_X10_height : List (List (Option AmI)) := [[some (.iload_n 0, 1, .null), some (.iconst 5, 1, .int 5), some (.if_icmp .ge 13, 3, .null), none, none, some (.iload_n 0, 1, .null), some (.ifCond .ne 7, 3, .null), none],
  [none, some (.iconst 0, 1, .int 0), some (.goto 4, 3, .null), none, none, some (.iconst 1, 1, .int 1), some (.ireturn, 1, .null), some (.iload_n 0, 1, .null)],
  [some (.bipush 25, 2, .int 25), none, some (.if_icmp .ge 5, 3, .null), none, none, some (.iconst 2, 1, .int 2), some (.ireturn, 1, .null), some (.iload_n 0, 1, .null)],
  [some (.bipush 125, 2, .int 125), none, some (.if_icmp .ge 5, 3, .null), none, none, some (.iconst 3, 1, .int 3), some (.ireturn, 1, .null), some (.iload_n 0, 1, .null)],
  [some (.sipush 625, 3, .int 625), none, none, some (.if_icmp .ge 7, 3, .null), none, none, some (.iconst 4, 1, .int 4), some (.goto 4, 3, .null)],
  [none, none, some (.iconst 5, 1, .int 5), some (.ireturn, 1, .null)]]
def m_X10_height : AmM := (yX10_height, cX10_height, 10, 1, (some .int), k_X10_height)
def k_X10_coinsIn : List (List (Option AmI)) := [[some (.iload_n 0, 1, .null), some (.iconst 0, 1, .int 0), some (.invokestatic 11, 3, .null), none, none, some (.invokestatic 23, 3, .null), none, none],
  [some (.iload_n 0, 1, .null), some (.iconst 1, 1, .int 1), some (.invokestatic 11, 3, .null), none, none, some (.invokestatic 23, 3, .null), none, none],
  [some (.iadd, 1, .null), some (.iload_n 0, 1, .null), some (.invokestatic 15, 3, .null), none, none, some (.invokestatic 26, 3, .null), none, none],
  [some (.iadd, 1, .null), some (.ireturn, 1, .null)]]
def m_X10_coinsIn : AmM := (yX10_coinsIn, cX10_coinsIn, 10, 1, (some .int), k_X10_coinsIn)
def k_X10_coinsAbove : List (List (Option AmI)) := [[some (.iload_n 0, 1, .null), some (.istore_n 2, 1, .null), some (.iconst 0, 1, .int 0), some (.istore_n 3, 1, .null), some (.iload_n 3, 1, .null), some (.iconst 5, 1, .int 5), some (.if_icmp .ge 28, 3, .null), none],
  [none, some (.iload_n 2, 1, .null), some (.ifCond .le 24, 3, .null), none, none, some (.iload_n 2, 1, .null), some (.iconst 5, 1, .int 5), some (.irem, 1, .null)],
  [some (.iload_n 1, 1, .null), some (.iconst 1, 1, .int 1), some (.iadd, 1, .null), some (.if_icmp .ne 5, 3, .null), none, none, some (.iload_n 3, 1, .null), some (.ireturn, 1, .null)],
  [some (.iload_n 2, 1, .null), some (.iconst 5, 1, .int 5), some (.idiv, 1, .null), some (.istore_n 2, 1, .null), some (.iinc 3 1, 3, .int 1), none, none, some (.goto (-27), 3, .null)],
  [none, none, some (.iconst (-1), 1, .int (-1)), some (.ireturn, 1, .null)]]
def m_X10_coinsAbove : AmM := (yX10_coinsAbove, cX10_coinsAbove, 10, 4, (some .int), k_X10_coinsAbove)
def k_X10_digitOnTray : List (List (Option AmI)) := [[some (.iconst 0, 1, .int 0), some (.istore_n 1, 1, .null), some (.iload_n 1, 1, .null), some (.iconst 4, 1, .int 4), some (.if_icmp .ge 22, 3, .null), none, none, some (.iload_n 0, 1, .null)],
  [some (.iload_n 1, 1, .null), some (.ishr, 1, .null), some (.iconst 1, 1, .int 1), some (.iand, 1, .null), some (.iconst 1, 1, .int 1), some (.if_icmp .ne 7, 3, .null), none, none],
  [some (.iload_n 1, 1, .null), some (.iconst 1, 1, .int 1), some (.iadd, 1, .null), some (.ireturn, 1, .null), some (.iinc 1 1, 3, .int 1), none, none, some (.goto (-21), 3, .null)],
  [none, none, some (.iconst 0, 1, .int 0), some (.ireturn, 1, .null)]]
def m_X10_digitOnTray : AmM := (yX10_digitOnTray, cX10_digitOnTray, 10, 2, (some .int), k_X10_digitOnTray)
def k_X10_trayWith : List (List (Option AmI)) := [[some (.iload_n 0, 1, .null), some (.ifCond .ne 7, 3, .null), none, none, some (.iconst 0, 1, .int 0), some (.goto 8, 3, .null), none, none],
  [some (.iconst 1, 1, .int 1), some (.iload_n 0, 1, .null), some (.iconst 1, 1, .int 1), some (.isub, 1, .null), some (.ishl, 1, .null), some (.ireturn, 1, .null)]]
def m_X10_trayWith : AmM := (yX10_trayWith, cX10_trayWith, 10, 1, (some .int), k_X10_trayWith)
def k_X11_init : List (List (Option AmI)) := [[some (.aload_n 0, 1, .null), some (.invokespecial 1, 3, .null), none, none, some (.aload_n 0, 1, .null), some (.new 7, 3, .null), none, none],
  [some (.dup, 1, .null), some (.invokespecial 9, 3, .null), none, none, some (.putfield 10, 3, .null), none, none, some (.aload_n 0, 1, .null)],
  [some (.new 16, 3, .null), none, none, some (.dup, 1, .null), some (.invokespecial 18, 3, .null), none, none, some (.putfield 19, 3, .null)],
  [none, none, some (.aload_n 0, 1, .null), some (.new 16, 3, .null), none, none, some (.dup, 1, .null), some (.invokespecial 18, 3, .null)],
  [none, none, some (.putfield 23, 3, .null), none, none, some (.aload_n 0, 1, .null), some (.new 26, 3, .null), none],
  [none, some (.dup, 1, .null), some (.invokespecial 28, 3, .null), none, none, some (.putfield 29, 3, .null), none, none],
  [some (.aload_n 0, 1, .null), some (.new 33, 3, .null), none, none, some (.dup, 1, .null), some (.sipush 161, 3, .int 161), none, none],
  [some (.invokespecial 35, 3, .null), none, none, some (.putfield 38, 3, .null), none, none, some (.aload_n 0, 1, .null), some (.invokestatic 42, 3, .null)],
  [none, none, some (.putfield 46, 3, .null), none, none, some (.aload_n 0, 1, .null), some (.invokestatic 50, 3, .null), none],
  [none, some (.putfield 54, 3, .null), none, none, some (.aload_n 0, 1, .null), some (.iconst 4, 1, .int 4), some (.newarray .int, 2, .null), none],
  [some (.putfield 58, 3, .null), none, none, some (.aload_n 0, 1, .null), some (.iconst 4, 1, .int 4), some (.newarray .int, 2, .null), none, some (.putfield 62, 3, .null)],
  [none, none, some (.aload_n 0, 1, .null), some (.new 65, 3, .null), none, none, some (.dup, 1, .null), some (.aload_n 0, 1, .null)],
  [some (.getfield 19, 3, .null), none, none, some (.invokespecial 67, 3, .null), none, none, some (.putfield 70, 3, .null), none],
  [none, some (.aload_n 0, 1, .null), some (.new 74, 3, .null), none, none, some (.dup, 1, .null), some (.sipush 1000, 3, .int 1000), none],
  [none, some (.invokespecial 76, 3, .null), none, none, some (.putfield 77, 3, .null), none, none, some (.aload_n 0, 1, .null)],
  [some (.new 81, 3, .null), none, none, some (.dup, 1, .null), some (.aload_n 0, 1, .null), some (.getfield 19, 3, .null), none, none],
  [some (.aload_n 0, 1, .null), some (.getfield 70, 3, .null), none, none, some (.aload_n 0, 1, .null), some (.getfield 46, 3, .null), none, none],
  [some (.invokespecial 83, 3, .null), none, none, some (.putfield 86, 3, .null), none, none, some (.aload_n 0, 1, .null), some (.new 90, 3, .null)],
  [none, none, some (.dup, 1, .null), some (.aload_n 0, 1, .null), some (.getfield 70, 3, .null), none, none, some (.aload_n 0, 1, .null)],
  [some (.getfield 46, 3, .null), none, none, some (.aload_n 0, 1, .null), some (.getfield 77, 3, .null), none, none, some (.invokespecial 92, 3, .null)],
  [none, none, some (.putfield 95, 3, .null), none, none, some (.aload_n 0, 1, .null), some (.new 99, 3, .null), none],
  [none, some (.dup, 1, .null), some (.aload_n 0, 1, .null), some (.getfield 19, 3, .null), none, none, some (.aload_n 0, 1, .null), some (.getfield 46, 3, .null)],
  [none, none, some (.invokespecial 101, 3, .null), none, none, some (.putfield 104, 3, .null), none, none],
  [some (.aload_n 0, 1, .null), some (.new 108, 3, .null), none, none, some (.dup, 1, .null), some (.invokespecial 110, 3, .null), none, none],
  [some (.putfield 111, 3, .null), none, none, some (.return_, 1, .null)]]
def m_X11_init : AmM := (yX11_init, cX11_init, 11, 1, none, k_X11_init)
def k_X11_newCustomers : List (List (Option AmI)) := [[some (.iconst 4, 1, .int 4), some (.anewarray 26, 3, .null), none, none, some (.astore_n 0, 1, .null), some (.iconst 0, 1, .int 0), some (.istore_n 1, 1, .null), some (.iload_n 1, 1, .null)],
  [some (.iconst 4, 1, .int 4), some (.if_icmp .ge 19, 3, .null), none, none, some (.aload_n 0, 1, .null), some (.iload_n 1, 1, .null), some (.new 26, 3, .null), none],
  [none, some (.dup, 1, .null), some (.invokespecial 28, 3, .null), none, none, some (.aastore, 1, .null), some (.iinc 1 1, 3, .int 1), none],
  [none, some (.goto (-18), 3, .null), none, none, some (.aload_n 0, 1, .null), some (.areturn, 1, .null)]]
def m_X11_newCustomers : AmM := (yX11_newCustomers, cX11_newCustomers, 11, 2, (some (.array (.object "TillPipe$Customer"))), k_X11_newCustomers)
def k_X11_newRules : List (List (Option AmI)) := [[some (.iconst 4, 1, .int 4), some (.anewarray 33, 3, .null), none, none, some (.astore_n 0, 1, .null), some (.iconst 0, 1, .int 0), some (.istore_n 1, 1, .null), some (.iload_n 1, 1, .null)],
  [some (.iconst 4, 1, .int 4), some (.if_icmp .ge 20, 3, .null), none, none, some (.aload_n 0, 1, .null), some (.iload_n 1, 1, .null), some (.new 33, 3, .null), none],
  [none, some (.dup, 1, .null), some (.iconst 0, 1, .int 0), some (.invokespecial 35, 3, .null), none, none, some (.aastore, 1, .null), some (.iinc 1 1, 3, .int 1)],
  [none, none, some (.goto (-19), 3, .null), none, none, some (.aload_n 0, 1, .null), some (.areturn, 1, .null)]]
def m_X11_newRules : AmM := (yX11_newRules, cX11_newRules, 11, 2, (some (.array (.object "TillPipe$Rule"))), k_X11_newRules)
def k_X11_feed : List (List (Option AmI)) := [[some (.aload_n 0, 1, .null), some (.getfield 10, 3, .null), none, none, some (.aload_n 0, 1, .null), some (.getfield 10, 3, .null), none, none],
  [some (.getfield 115, 3, .null), none, none, some (.iload_n 1, 1, .null), some (.invokevirtual 119, 3, .null), none, none, some (.istore 6, 2, .null)],
  [none, some (.aload_n 0, 1, .null), some (.getfield 10, 3, .null), none, none, some (.iload 6, 2, .null), none, some (.iload_n 2, 1, .null)],
  [some (.invokevirtual 119, 3, .null), none, none, some (.istore 6, 2, .null), none, some (.aload_n 0, 1, .null), some (.getfield 10, 3, .null), none],
  [none, some (.iload 6, 2, .null), none, some (.iload_n 3, 1, .null), some (.invokevirtual 119, 3, .null), none, none, some (.istore 6, 2, .null)],
  [none, some (.aload_n 0, 1, .null), some (.getfield 10, 3, .null), none, none, some (.iload 6, 2, .null), none, some (.iload 4, 2, .null)],
  [none, some (.invokevirtual 119, 3, .null), none, none, some (.istore 6, 2, .null), none, some (.aload_n 0, 1, .null), some (.getfield 10, 3, .null)],
  [none, none, some (.iload 6, 2, .null), none, some (.iload 5, 2, .null), none, some (.invokevirtual 119, 3, .null), none],
  [none, some (.istore 6, 2, .null), none, some (.iload 6, 2, .null), none, some (.sipush 160, 3, .int 160), none, none],
  [some (.if_icmp .le 5, 3, .null), none, none, some (.iconst (-1), 1, .int (-1)), some (.ireturn, 1, .null), some (.aload_n 0, 1, .null), some (.getfield 10, 3, .null), none],
  [none, some (.iload 6, 2, .null), none, some (.putfield 115, 3, .null), none, none, some (.iload 6, 2, .null), none],
  [some (.ireturn, 1, .null)]]
def m_X11_feed : AmM := (yX11_feed, cX11_feed, 11, 7, (some .int), k_X11_feed)
def k_X11_end : List (List (Option AmI)) := [[some (.iload_n 1, 1, .null), some (.ifCond .lt 14, 3, .null), none, none, some (.iload_n 1, 1, .null), some (.aload_n 0, 1, .null), some (.getfield 10, 3, .null), none],
  [none, some (.getfield 115, 3, .null), none, none, some (.if_icmp .le 5, 3, .null), none, none, some (.iconst 0, 1, .int 0)],
  [some (.ireturn, 1, .null), some (.aload_n 0, 1, .null), some (.getfield 10, 3, .null), none, none, some (.iload_n 1, 1, .null), some (.putfield 115, 3, .null), none],
  [none, some (.iconst 1, 1, .int 1), some (.ireturn, 1, .null)]]
def m_X11_end : AmM := (yX11_end, cX11_end, 11, 2, (some .boolean), k_X11_end)
def k_X11_fault : List (List (Option AmI)) := [[some (.aload_n 0, 1, .null), some (.getfield 10, 3, .null), none, none, some (.iconst 0, 1, .int 0), some (.putfield 123, 3, .null), none, none],
  [some (.iload_n 1, 1, .null), some (.tableswitch 76 0 2 #[27, 42, 61], 27, .null), none, none, none, none, none, none],
  [none, none, none, none, none, none, none, none],
  [none, none, none, none, none, none, none, none],
  [none, none, none, none, some (.aload_n 0, 1, .null), some (.getfield 23, 3, .null), none, none],
  [some (.aload_n 0, 1, .null), some (.getfield 10, 3, .null), none, none, some (.invokevirtual 126, 3, .null), none, none, some (.istore_n 2, 1, .null)],
  [some (.goto 40, 3, .null), none, none, some (.aload_n 0, 1, .null), some (.getfield 29, 3, .null), none, none, some (.aload_n 0, 1, .null)],
  [some (.getfield 10, 3, .null), none, none, some (.aload_n 0, 1, .null), some (.getfield 19, 3, .null), none, none, some (.invokevirtual 130, 3, .null)],
  [none, none, some (.istore_n 2, 1, .null), some (.goto 21, 3, .null), none, none, some (.aload_n 0, 1, .null), some (.getfield 38, 3, .null)],
  [none, none, some (.aload_n 0, 1, .null), some (.getfield 10, 3, .null), none, none, some (.invokevirtual 133, 3, .null), none],
  [none, some (.istore_n 2, 1, .null), some (.goto 6, 3, .null), none, none, some (.bipush (-2), 2, .int (-2)), none, some (.ireturn, 1, .null)],
  [some (.iload_n 2, 1, .null), some (.ifCond .eq 18, 3, .null), none, none, some (.aload_n 0, 1, .null), some (.getfield 10, 3, .null), none, none],
  [some (.invokevirtual 134, 3, .null), none, none, some (.iconst (-1), 1, .int (-1)), some (.if_icmp .ne 7, 3, .null), none, none, some (.iconst (-1), 1, .int (-1))],
  [some (.goto 10, 3, .null), none, none, some (.aload_n 0, 1, .null), some (.getfield 10, 3, .null), none, none, some (.getfield 123, 3, .null)],
  [none, none, some (.ireturn, 1, .null)]]
def m_X11_fault : AmM := (yX11_fault, cX11_fault, 11, 3, (some .int), k_X11_fault)
def k_X11_text : List (List (Option AmI)) := [[some (.aload_n 0, 1, .null), some (.iload_n 1, 1, .null), some (.invokevirtual 138, 3, .null), none, none, some (.iconst (-1), 1, .int (-1)), some (.if_icmp .eq 5, 3, .null), none],
  [none, some (.iconst (-1), 1, .int (-1)), some (.ireturn, 1, .null), some (.iload_n 1, 1, .null), some (.ifCond .ne 10, 3, .null), none, none, some (.aload_n 0, 1, .null)],
  [some (.invokevirtual 142, 3, .null), none, none, some (.goto 19, 3, .null), none, none, some (.iload_n 1, 1, .null), some (.iconst 1, 1, .int 1)],
  [some (.if_icmp .ne 10, 3, .null), none, none, some (.aload_n 0, 1, .null), some (.invokevirtual 145, 3, .null), none, none, some (.goto 7, 3, .null)],
  [none, none, some (.aload_n 0, 1, .null), some (.invokevirtual 148, 3, .null), none, none, some (.istore_n 2, 1, .null), some (.iload_n 2, 1, .null)],
  [some (.iconst (-1), 1, .int (-1)), some (.if_icmp .eq 11, 3, .null), none, none, some (.aload_n 0, 1, .null), some (.getfield 10, 3, .null), none, none],
  [some (.iconst 0, 1, .int 0), some (.putfield 115, 3, .null), none, none, some (.iload_n 2, 1, .null), some (.ireturn, 1, .null)]]
def m_X11_text : AmM := (yX11_text, cX11_text, 11, 3, (some .int), k_X11_text)
def k_X11_opensShop : List (List (Option AmI)) := [[some (.aload_n 0, 1, .null), some (.getfield 19, 3, .null), none, none, some (.aload_n 0, 1, .null), some (.getfield 23, 3, .null), none, none],
  [some (.invokevirtual 151, 3, .null), none, none, some (.aload_n 0, 1, .null), some (.iconst 0, 1, .int 0), some (.putfield 154, 3, .null), none, none],
  [some (.aload_n 0, 1, .null), some (.iconst 0, 1, .int 0), some (.putfield 157, 3, .null), none, none, some (.aload_n 0, 1, .null), some (.iconst 0, 1, .int 0), some (.putfield 160, 3, .null)],
  [none, none, some (.aload_n 0, 1, .null), some (.getfield 58, 3, .null), none, none, some (.iconst 0, 1, .int 0), some (.invokestatic 164, 3, .null)],
  [none, none, some (.aload_n 0, 1, .null), some (.getfield 19, 3, .null), none, none, some (.getfield 170, 3, .null), none],
  [none, some (.ireturn, 1, .null)]]
def m_X11_opensShop : AmM := (yX11_opensShop, cX11_opensShop, 11, 1, (some .int), k_X11_opensShop)
def k_X11_addsCustomer : List (List (Option AmI)) := [[some (.aload_n 0, 1, .null), some (.getfield 19, 3, .null), none, none, some (.invokevirtual 173, 3, .null), none, none, some (.ifCond .eq 11, 3, .null)],
  [none, none, some (.aload_n 0, 1, .null), some (.getfield 154, 3, .null), none, none, some (.iconst 4, 1, .int 4), some (.if_icmp .lt 5, 3, .null)],
  [none, none, some (.iconst (-1), 1, .int (-1)), some (.ireturn, 1, .null), some (.aload_n 0, 1, .null), some (.getfield 46, 3, .null), none, none],
  [some (.aload_n 0, 1, .null), some (.getfield 154, 3, .null), none, none, some (.aaload, 1, .null), some (.aload_n 0, 1, .null), some (.getfield 29, 3, .null), none],
  [none, some (.aload_n 0, 1, .null), some (.getfield 19, 3, .null), none, none, some (.invokevirtual 177, 3, .null), none, none],
  [some (.aload_n 0, 1, .null), some (.dup, 1, .null), some (.getfield 154, 3, .null), none, none, some (.dup_x1, 1, .null), some (.iconst 1, 1, .int 1), some (.iadd, 1, .null)],
  [some (.putfield 154, 3, .null), none, none, some (.ireturn, 1, .null)]]
def m_X11_addsCustomer : AmM := (yX11_addsCustomer, cX11_addsCustomer, 11, 1, (some .int), k_X11_addsCustomer)
def k_X11_addsRule : List (List (Option AmI)) := [[some (.aload_n 0, 1, .null), some (.getfield 180, 3, .null), none, none, some (.iconst 4, 1, .int 4), some (.if_icmp .lt 5, 3, .null), none, none],
  [some (.iconst (-1), 1, .int (-1)), some (.ireturn, 1, .null), some (.aload_n 0, 1, .null), some (.getfield 54, 3, .null), none, none, some (.aload_n 0, 1, .null), some (.getfield 180, 3, .null)],
  [none, none, some (.aaload, 1, .null), some (.aload_n 0, 1, .null), some (.getfield 38, 3, .null), none, none, some (.invokevirtual 183, 3, .null)],
  [none, none, some (.aload_n 0, 1, .null), some (.dup, 1, .null), some (.getfield 180, 3, .null), none, none, some (.dup_x1, 1, .null)],
  [some (.iconst 1, 1, .int 1), some (.iadd, 1, .null), some (.putfield 180, 3, .null), none, none, some (.ireturn, 1, .null)]]
def m_X11_addsRule : AmM := (yX11_addsRule, cX11_addsRule, 11, 1, (some .int), k_X11_addsRule)
def k_X11_value : List (List (Option AmI)) := [[some (.aload_n 0, 1, .null), some (.getfield 19, 3, .null), none, none, some (.iload_n 1, 1, .null), some (.invokevirtual 186, 3, .null), none, none],
  [some (.ifCond .ne 13, 3, .null), none, none, some (.new 190, 3, .null), none, none, some (.dup, 1, .null), some (.ldc 192, 2, .retAddr 2)],
  [none, some (.invokespecial 194, 3, .null), none, none, some (.athrow, 1, .null), some (.aload_n 0, 1, .null), some (.getfield 19, 3, .null), none],
  [none, some (.getfield 197, 3, .null), none, none, some (.iload_n 1, 1, .null), some (.iconst 1, 1, .int 1), some (.iadd, 1, .null), some (.iaload, 1, .null)],
  [some (.ireturn, 1, .null)]]
def m_X11_value : AmM := (yX11_value, cX11_value, 11, 2, (some .int), k_X11_value)
def k_X11_customer : List (List (Option AmI)) := [[some (.aload_n 0, 1, .null), some (.iload_n 1, 1, .null), some (.invokevirtual 200, 3, .null), none, none, some (.ifCond .ne 5, 3, .null), none, none],
  [some (.iconst (-1), 1, .int (-1)), some (.ireturn, 1, .null), some (.iload_n 2, 1, .null), some (.iconst (-1), 1, .int (-1)), some (.if_icmp .ne 13, 3, .null), none, none, some (.aload_n 0, 1, .null)],
  [some (.getfield 46, 3, .null), none, none, some (.iload_n 1, 1, .null), some (.aaload, 1, .null), some (.getfield 203, 3, .null), none, none],
  [some (.ireturn, 1, .null), some (.aload_n 0, 1, .null), some (.getfield 19, 3, .null), none, none, some (.iload_n 2, 1, .null), some (.invokevirtual 186, 3, .null), none],
  [none, some (.ifCond .eq 16, 3, .null), none, none, some (.aload_n 0, 1, .null), some (.getfield 46, 3, .null), none, none],
  [some (.iload_n 1, 1, .null), some (.aaload, 1, .null), some (.iload_n 2, 1, .null), some (.invokevirtual 206, 3, .null), none, none, some (.goto 4, 3, .null), none],
  [none, some (.iconst (-1), 1, .int (-1)), some (.ireturn, 1, .null)]]
def m_X11_customer : AmM := (yX11_customer, cX11_customer, 11, 3, (some .int), k_X11_customer)
def k_X11_lay : List (List (Option AmI)) := [[some (.aload_n 0, 1, .null), some (.getfield 19, 3, .null), none, none, some (.iload_n 1, 1, .null), some (.invokevirtual 186, 3, .null), none, none],
  [some (.ifCond .ne 5, 3, .null), none, none, some (.iconst 0, 1, .int 0), some (.ireturn, 1, .null), some (.aload_n 0, 1, .null), some (.getfield 157, 3, .null), none],
  [none, some (.invokestatic 209, 3, .null), none, none, some (.istore_n 3, 1, .null), some (.iload_n 2, 1, .null), some (.iconst 2, 1, .int 2), some (.if_icmp .ne 33, 3, .null)],
  [none, none, some (.iload_n 3, 1, .null), some (.invokestatic 214, 3, .null), none, none, some (.aload_n 0, 1, .null), some (.getfield 19, 3, .null)],
  [none, none, some (.getfield 219, 3, .null), none, none, some (.if_icmp .lt 5, 3, .null), none, none],
  [some (.iconst 0, 1, .int 0), some (.ireturn, 1, .null), some (.aload_n 0, 1, .null), some (.dup, 1, .null), some (.getfield 157, 3, .null), none, none, some (.iconst 1, 1, .int 1)],
  [some (.iload_n 1, 1, .null), some (.ishl, 1, .null), some (.iadd, 1, .null), some (.putfield 157, 3, .null), none, none, some (.iconst 1, 1, .int 1), some (.ireturn, 1, .null)],
  [some (.aload_n 0, 1, .null), some (.getfield 19, 3, .null), none, none, some (.iload_n 2, 1, .null), some (.invokevirtual 222, 3, .null), none, none],
  [some (.ifCond .eq 24, 3, .null), none, none, some (.aload_n 0, 1, .null), some (.getfield 157, 3, .null), none, none, some (.iload_n 2, 1, .null)],
  [some (.invokestatic 225, 3, .null), none, none, some (.invokestatic 228, 3, .null), none, none, some (.aload_n 0, 1, .null), some (.getfield 19, 3, .null)],
  [none, none, some (.getfield 231, 3, .null), none, none, some (.if_icmp .lt 5, 3, .null), none, none],
  [some (.iconst 0, 1, .int 0), some (.ireturn, 1, .null), some (.aload_n 0, 1, .null), some (.getfield 157, 3, .null), none, none, some (.iload_n 2, 1, .null), some (.invokestatic 225, 3, .null)],
  [none, none, some (.iconst 5, 1, .int 5), some (.imul, 1, .null), some (.iload_n 1, 1, .null), some (.iadd, 1, .null), some (.iconst 1, 1, .int 1), some (.iadd, 1, .null)],
  [some (.istore 4, 2, .null), none, some (.aload_n 0, 1, .null), some (.aload_n 0, 1, .null), some (.getfield 157, 3, .null), none, none, some (.iload_n 2, 1, .null)],
  [some (.iload 4, 2, .null), none, some (.invokestatic 232, 3, .null), none, none, some (.putfield 157, 3, .null), none, none],
  [some (.iconst 1, 1, .int 1), some (.ireturn, 1, .null)]]
def m_X11_lay : AmM := (yX11_lay, cX11_lay, 11, 5, (some .boolean), k_X11_lay)
def k_X11_lift : List (List (Option AmI)) := [[some (.aload_n 0, 1, .null), some (.getfield 19, 3, .null), none, none, some (.iload_n 1, 1, .null), some (.invokevirtual 222, 3, .null), none, none],
  [some (.ifCond .ne 5, 3, .null), none, none, some (.iconst (-1), 1, .int (-1)), some (.ireturn, 1, .null), some (.aload_n 0, 1, .null), some (.getfield 157, 3, .null), none],
  [none, some (.iload_n 1, 1, .null), some (.invokestatic 225, 3, .null), none, none, some (.istore_n 2, 1, .null), some (.iload_n 2, 1, .null), some (.ifCond .ne 5, 3, .null)],
  [none, none, some (.iconst (-1), 1, .int (-1)), some (.ireturn, 1, .null), some (.aload_n 0, 1, .null), some (.aload_n 0, 1, .null), some (.getfield 157, 3, .null), none],
  [none, some (.iload_n 1, 1, .null), some (.iload_n 2, 1, .null), some (.iconst 5, 1, .int 5), some (.idiv, 1, .null), some (.invokestatic 232, 3, .null), none, none],
  [some (.putfield 157, 3, .null), none, none, some (.iload_n 2, 1, .null), some (.iconst 5, 1, .int 5), some (.irem, 1, .null), some (.iconst 1, 1, .int 1), some (.isub, 1, .null)],
  [some (.ireturn, 1, .null)]]
def m_X11_lift : AmM := (yX11_lift, cX11_lift, 11, 3, (some .int), k_X11_lift)
def k_X11_coin : List (List (Option AmI)) := [[some (.aload_n 0, 1, .null), some (.getfield 19, 3, .null), none, none, some (.iload_n 1, 1, .null), some (.invokevirtual 222, 3, .null), none, none],
  [some (.ifCond .ne 5, 3, .null), none, none, some (.iconst (-1), 1, .int (-1)), some (.ireturn, 1, .null), some (.aload_n 0, 1, .null), some (.getfield 157, 3, .null), none],
  [none, some (.iload_n 1, 1, .null), some (.invokestatic 225, 3, .null), none, none, some (.istore_n 3, 1, .null), some (.iload_n 3, 1, .null), some (.invokestatic 228, 3, .null)],
  [none, none, some (.istore 4, 2, .null), none, some (.iload_n 2, 1, .null), some (.ifCond .lt 9, 3, .null), none, none],
  [some (.iload_n 2, 1, .null), some (.iload 4, 2, .null), none, some (.if_icmp .lt 5, 3, .null), none, none, some (.iconst (-1), 1, .int (-1)), some (.ireturn, 1, .null)],
  [some (.iload 4, 2, .null), none, some (.iconst 1, 1, .int 1), some (.isub, 1, .null), some (.istore 5, 2, .null), none, some (.iload 5, 2, .null), none],
  [some (.iload_n 2, 1, .null), some (.if_icmp .le 13, 3, .null), none, none, some (.iload_n 3, 1, .null), some (.iconst 5, 1, .int 5), some (.idiv, 1, .null), some (.istore_n 3, 1, .null)],
  [some (.iinc 5 (-1), 3, .int (-1)), none, none, some (.goto (-13), 3, .null), none, none, some (.iload_n 3, 1, .null), some (.iconst 5, 1, .int 5)],
  [some (.irem, 1, .null), some (.iconst 1, 1, .int 1), some (.isub, 1, .null), some (.ireturn, 1, .null)]]
def m_X11_coin : AmM := (yX11_coin, cX11_coin, 11, 6, (some .int), k_X11_coin)
def k_X11_tray : List (List (Option AmI)) := [[some (.aload_n 0, 1, .null), some (.getfield 19, 3, .null), none, none, some (.iload_n 1, 1, .null), some (.invokevirtual 186, 3, .null), none, none],
  [some (.ifCond .eq 17, 3, .null), none, none, some (.aload_n 0, 1, .null), some (.getfield 157, 3, .null), none, none, some (.invokestatic 209, 3, .null)],
  [none, none, some (.iload_n 1, 1, .null), some (.ishr, 1, .null), some (.iconst 1, 1, .int 1), some (.iand, 1, .null), some (.goto 4, 3, .null), none],
  [none, some (.iconst (-1), 1, .int (-1)), some (.ireturn, 1, .null)]]
def m_X11_tray : AmM := (yX11_tray, cX11_tray, 11, 2, (some .int), k_X11_tray)
def k_X11_till : List (List (Option AmI)) := [[some (.aload_n 0, 1, .null), some (.getfield 19, 3, .null), none, none, some (.invokevirtual 173, 3, .null), none, none, some (.ifCond .eq 11, 3, .null)],
  [none, none, some (.aload_n 0, 1, .null), some (.getfield 157, 3, .null), none, none, some (.i2l, 1, .null), some (.goto 6, 3, .null)],
  [none, none, some (.ldc2_w 236, 3, .long (-1)), none, none, some (.lreturn, 1, .null)]]
def m_X11_till : AmM := (yX11_till, cX11_till, 11, 1, (some .long), k_X11_till)
def k_X11_result : List (List (Option AmI)) := [[some (.iload_n 2, 1, .null), some (.iconst (-1), 1, .int (-1)), some (.if_icmp .lt 11, 3, .null), none, none, some (.aload_n 0, 1, .null), some (.iload_n 1, 1, .null), some (.invokevirtual 200, 3, .null)],
  [none, none, some (.ifCond .ne 7, 3, .null), none, none, some (.ldc2_w 236, 3, .long (-1)), none, none],
  [some (.lreturn, 1, .null), some (.aload_n 0, 1, .null), some (.iload_n 1, 1, .null), some (.invokevirtual 238, 3, .null), none, none, some (.ifCond .ne 7, 3, .null), none],
  [none, some (.ldc2_w 241, 3, .long (-2)), none, none, some (.lreturn, 1, .null), some (.aload_n 0, 1, .null), some (.getfield 77, 3, .null), none],
  [none, some (.iload_n 2, 1, .null), some (.invokevirtual 243, 3, .null), none, none, some (.i2l, 1, .null), some (.lreturn, 1, .null)]]
def m_X11_result : AmM := (yX11_result, cX11_result, 11, 3, (some .long), k_X11_result)
def k_X11_serve : List (List (Option AmI)) := [[some (.iload_n 2, 1, .null), some (.ifCond .lt 30, 3, .null), none, none, some (.aload_n 0, 1, .null), some (.iload_n 1, 1, .null), some (.invokevirtual 200, 3, .null), none],
  [none, some (.ifCond .eq 22, 3, .null), none, none, some (.aload_n 0, 1, .null), some (.iload_n 1, 1, .null), some (.invokevirtual 238, 3, .null), none],
  [none, some (.ifCond .eq 14, 3, .null), none, none, some (.iload_n 2, 1, .null), some (.aload_n 0, 1, .null), some (.getfield 77, 3, .null), none],
  [none, some (.getfield 246, 3, .null), none, none, some (.if_icmp .lt 5, 3, .null), none, none, some (.iconst (-1), 1, .int (-1))],
  [some (.ireturn, 1, .null), some (.aload_n 0, 1, .null), some (.aload_n 0, 1, .null), some (.getfield 77, 3, .null), none, none, some (.getfield 249, 3, .null), none],
  [none, some (.iload_n 2, 1, .null), some (.iaload, 1, .null), some (.putfield 157, 3, .null), none, none, some (.aload_n 0, 1, .null), some (.getfield 58, 3, .null)],
  [none, none, some (.iload_n 1, 1, .null), some (.dup2, 1, .null), some (.iaload, 1, .null), some (.iconst 1, 1, .int 1), some (.iadd, 1, .null), some (.iastore, 1, .null)],
  [some (.aload_n 0, 1, .null), some (.getfield 58, 3, .null), none, none, some (.iload_n 1, 1, .null), some (.iaload, 1, .null), some (.ireturn, 1, .null)]]
def m_X11_serve : AmM := (yX11_serve, cX11_serve, 11, 3, (some .int), k_X11_serve)
def k_X11_findsResults : List (List (Option AmI)) := [[some (.aload_n 0, 1, .null), some (.getfield 77, 3, .null), none, none, some (.iconst 0, 1, .int 0), some (.putfield 246, 3, .null), none, none],
  [some (.aload_n 0, 1, .null), some (.getfield 70, 3, .null), none, none, some (.aload_n 0, 1, .null), some (.getfield 157, 3, .null), none, none],
  [some (.aload_n 0, 1, .null), some (.getfield 46, 3, .null), none, none, some (.iload_n 1, 1, .null), some (.aaload, 1, .null), some (.aload_n 0, 1, .null), some (.getfield 77, 3, .null)],
  [none, none, some (.invokevirtual 252, 3, .null), none, none, some (.ifCond .ne 5, 3, .null), none, none],
  [some (.iconst 0, 1, .int 0), some (.ireturn, 1, .null), some (.aload_n 0, 1, .null), some (.getfield 77, 3, .null), none, none, some (.invokevirtual 256, 3, .null), none],
  [none, some (.iconst 1, 1, .int 1), some (.ireturn, 1, .null)]]
def m_X11_findsResults : AmM := (yX11_findsResults, cX11_findsResults, 11, 2, (some .boolean), k_X11_findsResults)
def k_X11_row : List (List (Option AmI)) := [[some (.aload_n 0, 1, .null), some (.getfield 111, 3, .null), none, none, some (.iload_n 1, 1, .null), some (.aload_n 0, 1, .null), some (.getfield 154, 3, .null), none],
  [none, some (.invokevirtual 259, 3, .null), none, none, some (.ifCond .ne 5, 3, .null), none, none, some (.iconst (-1), 1, .int (-1))],
  [some (.ireturn, 1, .null), some (.aload_n 0, 1, .null), some (.getfield 86, 3, .null), none, none, some (.aload_n 0, 1, .null), some (.getfield 157, 3, .null), none],
  [none, some (.aload_n 0, 1, .null), some (.getfield 111, 3, .null), none, none, some (.invokevirtual 262, 3, .null), none, none],
  [some (.ireturn, 1, .null)]]
def m_X11_row : AmM := (yX11_row, cX11_row, 11, 2, (some .int), k_X11_row)
def k_X11_left : List (List (Option AmI)) := [[some (.iload_n 2, 1, .null), some (.iconst (-1), 1, .int (-1)), some (.if_icmp .lt 18, 3, .null), none, none, some (.aload_n 0, 1, .null), some (.getfield 111, 3, .null), none],
  [none, some (.iload_n 1, 1, .null), some (.aload_n 0, 1, .null), some (.getfield 154, 3, .null), none, none, some (.invokevirtual 259, 3, .null), none],
  [none, some (.ifCond .ne 7, 3, .null), none, none, some (.ldc2_w 236, 3, .long (-1)), none, none, some (.lreturn, 1, .null)],
  [some (.aload_n 0, 1, .null), some (.getfield 86, 3, .null), none, none, some (.aload_n 0, 1, .null), some (.getfield 157, 3, .null), none, none],
  [some (.aload_n 0, 1, .null), some (.getfield 111, 3, .null), none, none, some (.invokevirtual 262, 3, .null), none, none, some (.bipush (-2), 2, .int (-2))],
  [none, some (.if_icmp .ne 7, 3, .null), none, none, some (.ldc2_w 241, 3, .long (-2)), none, none, some (.lreturn, 1, .null)],
  [some (.aload_n 0, 1, .null), some (.getfield 86, 3, .null), none, none, some (.aload_n 0, 1, .null), some (.getfield 111, 3, .null), none, none],
  [some (.getfield 266, 3, .null), none, none, some (.invokevirtual 267, 3, .null), none, none, some (.astore_n 3, 1, .null), some (.aload_n 3, 1, .null)],
  [some (.invokevirtual 256, 3, .null), none, none, some (.aload_n 3, 1, .null), some (.iload_n 2, 1, .null), some (.invokevirtual 243, 3, .null), none, none],
  [some (.i2l, 1, .null), some (.lreturn, 1, .null)]]
def m_X11_left : AmM := (yX11_left, cX11_left, 11, 4, (some .long), k_X11_left)
def k_X11_aside : List (List (Option AmI)) := [[some (.iload_n 1, 1, .null), some (.ifCond .lt 15, 3, .null), none, none, some (.iload_n 1, 1, .null), some (.iconst 1, 1, .int 1), some (.if_icmp .gt 10, 3, .null), none],
  [none, some (.aload_n 0, 1, .null), some (.getfield 154, 3, .null), none, none, some (.ifCond .ne 5, 3, .null), none, none],
  [some (.iconst (-1), 1, .int (-1)), some (.ireturn, 1, .null), some (.aload_n 0, 1, .null), some (.getfield 86, 3, .null), none, none, some (.aload_n 0, 1, .null), some (.getfield 157, 3, .null)],
  [none, none, some (.aload_n 0, 1, .null), some (.getfield 154, 3, .null), none, none, some (.aload_n 0, 1, .null), some (.getfield 111, 3, .null)],
  [none, none, some (.invokevirtual 271, 3, .null), none, none, some (.istore_n 2, 1, .null), some (.iload_n 2, 1, .null), some (.ifCond .lt 7, 3, .null)],
  [none, none, some (.iload_n 1, 1, .null), some (.ifCond .ne 7, 3, .null), none, none, some (.iload_n 2, 1, .null), some (.goto 10, 3, .null)],
  [none, none, some (.aload_n 0, 1, .null), some (.getfield 111, 3, .null), none, none, some (.invokevirtual 275, 3, .null), none],
  [none, some (.ireturn, 1, .null)]]
def m_X11_aside : AmM := (yX11_aside, cX11_aside, 11, 3, (some .int), k_X11_aside)
def k_X11_steps : List (List (Option AmI)) := [[some (.aload_n 0, 1, .null), some (.getfield 111, 3, .null), none, none, some (.iload_n 1, 1, .null), some (.aload_n 0, 1, .null), some (.getfield 154, 3, .null), none],
  [none, some (.invokevirtual 259, 3, .null), none, none, some (.ifCond .eq 13, 3, .null), none, none, some (.aload_n 0, 1, .null)],
  [some (.getfield 111, 3, .null), none, none, some (.invokevirtual 278, 3, .null), none, none, some (.goto 4, 3, .null), none],
  [none, some (.iconst (-1), 1, .int (-1)), some (.ireturn, 1, .null)]]
def m_X11_steps : AmM := (yX11_steps, cX11_steps, 11, 2, (some .int), k_X11_steps)
def k_X11_most : List (List (Option AmI)) := [[some (.aload_n 0, 1, .null), some (.getfield 154, 3, .null), none, none, some (.ifCond .ne 7, 3, .null), none, none, some (.iconst (-1), 1, .int (-1))],
  [some (.goto 18, 3, .null), none, none, some (.aload_n 0, 1, .null), some (.getfield 86, 3, .null), none, none, some (.aload_n 0, 1, .null)],
  [some (.getfield 157, 3, .null), none, none, some (.aload_n 0, 1, .null), some (.getfield 154, 3, .null), none, none, some (.invokevirtual 281, 3, .null)],
  [none, none, some (.ireturn, 1, .null)]]
def m_X11_most : AmM := (yX11_most, cX11_most, 11, 1, (some .int), k_X11_most)
def k_X11_dawn : List (List (Option AmI)) := [[some (.iload_n 2, 1, .null), some (.ifCond .lt 26, 3, .null), none, none, some (.iload_n 2, 1, .null), some (.iconst 1, 1, .int 1), some (.if_icmp .gt 21, 3, .null), none],
  [none, some (.iload_n 1, 1, .null), some (.iconst 1, 1, .int 1), some (.if_icmp .lt 16, 3, .null), none, none, some (.iload_n 1, 1, .null), some (.iconst 2, 1, .int 2)],
  [some (.if_icmp .gt 11, 3, .null), none, none, some (.iload_n 1, 1, .null), some (.aload_n 0, 1, .null), some (.getfield 154, 3, .null), none, none],
  [some (.if_icmp .le 7, 3, .null), none, none, some (.ldc2_w 236, 3, .long (-1)), none, none, some (.lreturn, 1, .null), some (.aload_n 0, 1, .null)],
  [some (.getfield 86, 3, .null), none, none, some (.iload_n 1, 1, .null), some (.aload_n 0, 1, .null), some (.getfield 111, 3, .null), none, none],
  [some (.invokevirtual 284, 3, .null), none, none, some (.istore_n 3, 1, .null), some (.iload_n 3, 1, .null), some (.ifCond .lt 8, 3, .null), none, none],
  [some (.iload_n 2, 1, .null), some (.iconst 1, 1, .int 1), some (.if_icmp .ne 8, 3, .null), none, none, some (.iload_n 3, 1, .null), some (.i2l, 1, .null), some (.goto 8, 3, .null)],
  [none, none, some (.iload_n 3, 1, .null), some (.invokestatic 287, 3, .null), none, none, some (.i2l, 1, .null), some (.lreturn, 1, .null)]]
def m_X11_dawn : AmM := (yX11_dawn, cX11_dawn, 11, 4, (some .long), k_X11_dawn)
def k_X11_breaks : List (List (Option AmI)) := [[some (.iload_n 1, 1, .null), some (.iconst 1, 1, .int 1), some (.if_icmp .lt 11, 3, .null), none, none, some (.iload_n 1, 1, .null), some (.aload_n 0, 1, .null), some (.getfield 154, 3, .null)],
  [none, none, some (.if_icmp .le 5, 3, .null), none, none, some (.iconst (-1), 1, .int (-1)), some (.ireturn, 1, .null), some (.aload_n 0, 1, .null)],
  [some (.getfield 86, 3, .null), none, none, some (.aload_n 0, 1, .null), some (.getfield 157, 3, .null), none, none, some (.iload_n 1, 1, .null)],
  [some (.aload_n 0, 1, .null), some (.getfield 111, 3, .null), none, none, some (.invokevirtual 290, 3, .null), none, none, some (.ireturn, 1, .null)]]
def m_X11_breaks : AmM := (yX11_breaks, cX11_breaks, 11, 2, (some .int), k_X11_breaks)
def k_X11_by : List (List (Option AmI)) := [[some (.aload_n 0, 1, .null), some (.iload_n 1, 1, .null), some (.invokevirtual 293, 3, .null), none, none, some (.ifCond .eq 11, 3, .null), none, none],
  [some (.aload_n 0, 1, .null), some (.iload_n 2, 1, .null), some (.invokevirtual 200, 3, .null), none, none, some (.ifCond .ne 5, 3, .null), none, none],
  [some (.iconst (-1), 1, .int (-1)), some (.ireturn, 1, .null), some (.aload_n 0, 1, .null), some (.getfield 104, 3, .null), none, none, some (.aload_n 0, 1, .null), some (.getfield 157, 3, .null)],
  [none, none, some (.iload_n 2, 1, .null), some (.aload_n 0, 1, .null), some (.getfield 54, 3, .null), none, none, some (.iload_n 1, 1, .null)],
  [some (.aaload, 1, .null), some (.invokevirtual 296, 3, .null), none, none, some (.istore_n 3, 1, .null), some (.iload_n 3, 1, .null), some (.iconst (-1), 1, .int (-1)), some (.if_icmp .ne 5, 3, .null)],
  [none, none, some (.iconst 0, 1, .int 0), some (.ireturn, 1, .null), some (.aload_n 0, 1, .null), some (.iload_n 3, 1, .null), some (.putfield 157, 3, .null), none],
  [none, some (.aload_n 0, 1, .null), some (.getfield 58, 3, .null), none, none, some (.iload_n 2, 1, .null), some (.dup2, 1, .null), some (.iaload, 1, .null)],
  [some (.iconst 1, 1, .int 1), some (.iadd, 1, .null), some (.iastore, 1, .null), some (.iconst 1, 1, .int 1), some (.ireturn, 1, .null)]]
def m_X11_by : AmM := (yX11_by, cX11_by, 11, 4, (some .int), k_X11_by)
def k_X11_gives : List (List (Option AmI)) := [[some (.aload_n 0, 1, .null), some (.iload_n 1, 1, .null), some (.invokevirtual 200, 3, .null), none, none, some (.ifCond .eq 14, 3, .null), none, none],
  [some (.aload_n 0, 1, .null), some (.getfield 19, 3, .null), none, none, some (.iload_n 2, 1, .null), some (.invokevirtual 186, 3, .null), none, none],
  [some (.ifCond .ne 5, 3, .null), none, none, some (.iconst (-1), 1, .int (-1)), some (.ireturn, 1, .null), some (.aload_n 0, 1, .null), some (.getfield 46, 3, .null), none],
  [none, some (.iload_n 1, 1, .null), some (.aaload, 1, .null), some (.iload_n 2, 1, .null), some (.invokevirtual 300, 3, .null), none, none, some (.ireturn, 1, .null)]]
def m_X11_gives : AmM := (yX11_gives, cX11_gives, 11, 3, (some .int), k_X11_gives)
def k_X11_run : List (List (Option AmI)) := [[some (.aload_n 0, 1, .null), some (.iload_n 1, 1, .null), some (.invokevirtual 293, 3, .null), none, none, some (.ifCond .eq 18, 3, .null), none, none],
  [some (.aload_n 0, 1, .null), some (.getfield 111, 3, .null), none, none, some (.iload_n 2, 1, .null), some (.aload_n 0, 1, .null), some (.getfield 154, 3, .null), none],
  [none, some (.invokevirtual 259, 3, .null), none, none, some (.ifCond .ne 5, 3, .null), none, none, some (.iconst (-1), 1, .int (-1))],
  [some (.ireturn, 1, .null), some (.aload_n 0, 1, .null), some (.getfield 104, 3, .null), none, none, some (.aload_n 0, 1, .null), some (.getfield 157, 3, .null), none],
  [none, some (.aload_n 0, 1, .null), some (.getfield 54, 3, .null), none, none, some (.iload_n 1, 1, .null), some (.aaload, 1, .null), some (.aload_n 0, 1, .null)],
  [some (.getfield 111, 3, .null), none, none, some (.invokevirtual 303, 3, .null), none, none, some (.ireturn, 1, .null)]]
def m_X11_run : AmM := (yX11_run, cX11_run, 11, 3, (some .int), k_X11_run)
def k_X11_worst : List (List (Option AmI)) := [[some (.aload_n 0, 1, .null), some (.iload_n 1, 1, .null), some (.invokevirtual 293, 3, .null), none, none, some (.ifCond .eq 19, 3, .null), none, none],
  [some (.iload_n 2, 1, .null), some (.ifCond .lt 15, 3, .null), none, none, some (.iload_n 2, 1, .null), some (.iconst 1, 1, .int 1), some (.if_icmp .gt 10, 3, .null), none],
  [none, some (.aload_n 0, 1, .null), some (.getfield 154, 3, .null), none, none, some (.ifCond .ne 5, 3, .null), none, none],
  [some (.iconst (-1), 1, .int (-1)), some (.ireturn, 1, .null), some (.iconst 5, 1, .int 5), some (.istore_n 3, 1, .null), some (.iconst (-1), 1, .int (-1)), some (.istore 4, 2, .null), none, some (.aload_n 0, 1, .null)],
  [some (.getfield 111, 3, .null), none, none, some (.aload_n 0, 1, .null), some (.getfield 154, 3, .null), none, none, some (.invokevirtual 307, 3, .null)],
  [none, none, some (.iconst 0, 1, .int 0), some (.istore 5, 2, .null), none, some (.iload 5, 2, .null), none, some (.bipush 24, 2, .int 24)],
  [none, some (.if_icmp .ge 63, 3, .null), none, none, some (.aload_n 0, 1, .null), some (.getfield 104, 3, .null), none, none],
  [some (.aload_n 0, 1, .null), some (.getfield 157, 3, .null), none, none, some (.aload_n 0, 1, .null), some (.getfield 54, 3, .null), none, none],
  [some (.iload_n 1, 1, .null), some (.aaload, 1, .null), some (.aload_n 0, 1, .null), some (.getfield 111, 3, .null), none, none, some (.invokevirtual 303, 3, .null), none],
  [none, some (.istore 6, 2, .null), none, some (.iload 6, 2, .null), none, some (.iload_n 3, 1, .null), some (.if_icmp .ge 15, 3, .null), none],
  [none, some (.iload 6, 2, .null), none, some (.istore_n 3, 1, .null), some (.aload_n 0, 1, .null), some (.getfield 111, 3, .null), none, none],
  [some (.invokevirtual 275, 3, .null), none, none, some (.istore 4, 2, .null), none, some (.aload_n 0, 1, .null), some (.getfield 111, 3, .null), none],
  [none, some (.invokevirtual 310, 3, .null), none, none, some (.ifCond .ne 6, 3, .null), none, none, some (.goto 9, 3, .null)],
  [none, none, some (.iinc 5 1, 3, .int 1), none, none, some (.goto (-64), 3, .null), none, none],
  [some (.iload_n 2, 1, .null), some (.ifCond .ne 7, 3, .null), none, none, some (.iload_n 3, 1, .null), some (.goto 5, 3, .null), none, none],
  [some (.iload 4, 2, .null), none, some (.ireturn, 1, .null)]]
def m_X11_worst : AmM := (yX11_worst, cX11_worst, 11, 7, (some .int), k_X11_worst)
def k_X11_day : List (List (Option AmI)) := [[some (.aload_n 0, 1, .null), some (.iload_n 1, 1, .null), some (.invokevirtual 293, 3, .null), none, none, some (.ifCond .eq 21, 3, .null), none, none],
  [some (.iload_n 2, 1, .null), some (.iconst 1, 1, .int 1), some (.if_icmp .lt 16, 3, .null), none, none, some (.iload_n 2, 1, .null), some (.bipush 60, 2, .int 60), none],
  [some (.if_icmp .gt 10, 3, .null), none, none, some (.aload_n 0, 1, .null), some (.getfield 154, 3, .null), none, none, some (.ifCond .ne 5, 3, .null)],
  [none, none, some (.iconst (-1), 1, .int (-1)), some (.ireturn, 1, .null), some (.aload_n 0, 1, .null), some (.getfield 104, 3, .null), none, none],
  [some (.aload_n 0, 1, .null), some (.getfield 157, 3, .null), none, none, some (.aload_n 0, 1, .null), some (.getfield 54, 3, .null), none, none],
  [some (.iload_n 1, 1, .null), some (.aaload, 1, .null), some (.iload_n 2, 1, .null), some (.lload_n 3, 1, .null), some (.aload_n 0, 1, .null), some (.getfield 154, 3, .null), none, none],
  [some (.invokevirtual 313, 3, .null), none, none, some (.ireturn, 1, .null)]]
def m_X11_day : AmM := (yX11_day, cX11_day, 11, 5, (some .int), k_X11_day)
def k_X11_best : List (List (Option AmI)) := [[some (.iload_n 2, 1, .null), some (.ifCond .ne 22, 3, .null), none, none, some (.aload_n 0, 1, .null), some (.getfield 111, 3, .null), none, none],
  [some (.iload_n 1, 1, .null), some (.aload_n 0, 1, .null), some (.getfield 154, 3, .null), none, none, some (.invokevirtual 259, 3, .null), none, none],
  [some (.ifCond .eq 7, 3, .null), none, none, some (.iconst 1, 1, .int 1), some (.goto 4, 3, .null), none, none, some (.iconst 0, 1, .int 0)],
  [some (.istore 5, 2, .null), none, some (.iload_n 2, 1, .null), some (.iconst 1, 1, .int 1), some (.if_icmp .lt 25, 3, .null), none, none, some (.iload_n 2, 1, .null)],
  [some (.bipush 60, 2, .int 60), none, some (.if_icmp .gt 19, 3, .null), none, none, some (.iload_n 1, 1, .null), some (.iconst (-1), 1, .int (-1)), some (.if_icmp .ne 14, 3, .null)],
  [none, none, some (.aload_n 0, 1, .null), some (.getfield 154, 3, .null), none, none, some (.ifCond .le 7, 3, .null), none],
  [none, some (.iconst 1, 1, .int 1), some (.goto 4, 3, .null), none, none, some (.iconst 0, 1, .int 0), some (.istore 6, 2, .null), none],
  [some (.iload 5, 2, .null), none, some (.ifCond .ne 10, 3, .null), none, none, some (.iload 6, 2, .null), none, some (.ifCond .ne 5, 3, .null)],
  [none, none, some (.iconst (-1), 1, .int (-1)), some (.ireturn, 1, .null), some (.iconst (-1), 1, .int (-1)), some (.istore 7, 2, .null), none, some (.iconst (-1), 1, .int (-1))],
  [some (.istore 8, 2, .null), none, some (.iconst 0, 1, .int 0), some (.istore 9, 2, .null), none, some (.iload 9, 2, .null), none, some (.aload_n 0, 1, .null)],
  [some (.getfield 180, 3, .null), none, none, some (.if_icmp .ge 80, 3, .null), none, none, some (.iload 5, 2, .null), none],
  [some (.ifCond .eq 28, 3, .null), none, none, some (.aload_n 0, 1, .null), some (.getfield 104, 3, .null), none, none, some (.aload_n 0, 1, .null)],
  [some (.getfield 157, 3, .null), none, none, some (.aload_n 0, 1, .null), some (.getfield 54, 3, .null), none, none, some (.iload 9, 2, .null)],
  [none, some (.aaload, 1, .null), some (.aload_n 0, 1, .null), some (.getfield 111, 3, .null), none, none, some (.invokevirtual 303, 3, .null), none],
  [none, some (.goto 27, 3, .null), none, none, some (.aload_n 0, 1, .null), some (.getfield 104, 3, .null), none, none],
  [some (.aload_n 0, 1, .null), some (.getfield 157, 3, .null), none, none, some (.aload_n 0, 1, .null), some (.getfield 54, 3, .null), none, none],
  [some (.iload 9, 2, .null), none, some (.aaload, 1, .null), some (.iload_n 2, 1, .null), some (.lload_n 3, 1, .null), some (.aload_n 0, 1, .null), some (.getfield 154, 3, .null), none],
  [none, some (.invokevirtual 313, 3, .null), none, none, some (.istore 10, 2, .null), none, some (.iload 10, 2, .null), none],
  [some (.iload 8, 2, .null), none, some (.if_icmp .le 11, 3, .null), none, none, some (.iload 10, 2, .null), none, some (.istore 8, 2, .null)],
  [none, some (.iload 9, 2, .null), none, some (.istore 7, 2, .null), none, some (.iinc 9 1, 3, .int 1), none, none],
  [some (.goto (-83), 3, .null), none, none, some (.iload 7, 2, .null), none, some (.ireturn, 1, .null)]]
def m_X11_best : AmM := (yX11_best, cX11_best, 11, 11, (some .int), k_X11_best)
def k_X11_served : List (List (Option AmI)) := [[some (.aload_n 0, 1, .null), some (.iload_n 1, 1, .null), some (.invokevirtual 200, 3, .null), none, none, some (.ifCond .eq 12, 3, .null), none, none],
  [some (.aload_n 0, 1, .null), some (.getfield 58, 3, .null), none, none, some (.iload_n 1, 1, .null), some (.iaload, 1, .null), some (.goto 4, 3, .null), none],
  [none, some (.iconst (-1), 1, .int (-1)), some (.ireturn, 1, .null)]]
def m_X11_served : AmM := (yX11_served, cX11_served, 11, 2, (some .int), k_X11_served)
def k_X11_cover : List (List (Option AmI)) := [[some (.aload_n 0, 1, .null), some (.getfield 19, 3, .null), none, none, some (.iload_n 1, 1, .null), some (.invokevirtual 186, 3, .null), none, none],
  [some (.ifCond .ne 5, 3, .null), none, none, some (.iconst (-1), 1, .int (-1)), some (.ireturn, 1, .null), some (.aload_n 0, 1, .null), some (.getfield 157, 3, .null), none],
  [none, some (.invokestatic 209, 3, .null), none, none, some (.iload_n 1, 1, .null), some (.ishr, 1, .null), some (.iconst 1, 1, .int 1), some (.iand, 1, .null)],
  [some (.iconst 1, 1, .int 1), some (.if_icmp .ne 5, 3, .null), none, none, some (.iconst 0, 1, .int 0), some (.ireturn, 1, .null), some (.aload_n 0, 1, .null), some (.getfield 157, 3, .null)],
  [none, none, some (.iconst 0, 1, .int 0), some (.invokestatic 225, 3, .null), none, none, some (.iload_n 1, 1, .null), some (.invokestatic 317, 3, .null)],
  [none, none, some (.istore_n 2, 1, .null), some (.aload_n 0, 1, .null), some (.getfield 157, 3, .null), none, none, some (.iconst 1, 1, .int 1)],
  [some (.invokestatic 225, 3, .null), none, none, some (.iload_n 1, 1, .null), some (.invokestatic 317, 3, .null), none, none, some (.istore_n 3, 1, .null)],
  [some (.iload_n 2, 1, .null), some (.iconst (-1), 1, .int (-1)), some (.if_icmp .eq 8, 3, .null), none, none, some (.iload_n 3, 1, .null), some (.iconst (-1), 1, .int (-1)), some (.if_icmp .ne 9, 3, .null)],
  [none, none, some (.iload_n 2, 1, .null), some (.iload_n 3, 1, .null), some (.invokestatic 320, 3, .null), none, none, some (.ireturn, 1, .null)],
  [some (.iload_n 2, 1, .null), some (.iload_n 3, 1, .null), some (.invokestatic 325, 3, .null), none, none, some (.ireturn, 1, .null)]]
def m_X11_cover : AmM := (yX11_cover, cX11_cover, 11, 4, (some .int), k_X11_cover)
def k_X11_change : List (List (Option AmI)) := [[some (.aload_n 0, 1, .null), some (.getfield 19, 3, .null), none, none, some (.invokevirtual 173, 3, .null), none, none, some (.ifCond .eq 23, 3, .null)],
  [none, none, some (.iload_n 1, 1, .null), some (.iconst 1, 1, .int 1), some (.if_icmp .lt 18, 3, .null), none, none, some (.iload_n 1, 1, .null)],
  [some (.bipush 99, 2, .int 99), none, some (.if_icmp .gt 12, 3, .null), none, none, some (.iload_n 2, 1, .null), some (.ifCond .lt 8, 3, .null), none],
  [none, some (.iload_n 2, 1, .null), some (.iconst 1, 1, .int 1), some (.if_icmp .le 6, 3, .null), none, none, some (.bipush (-2), 2, .int (-2)), none],
  [some (.ireturn, 1, .null), some (.aload_n 0, 1, .null), some (.getfield 70, 3, .null), none, none, some (.aload_n 0, 1, .null), some (.getfield 157, 3, .null), none],
  [none, some (.invokevirtual 328, 3, .null), none, none, some (.aload_n 0, 1, .null), some (.getfield 70, 3, .null), none, none],
  [some (.iload_n 1, 1, .null), some (.invokevirtual 331, 3, .null), none, none, some (.istore_n 3, 1, .null), some (.iload_n 2, 1, .null), some (.iconst 1, 1, .int 1), some (.if_icmp .ne 5, 3, .null)],
  [none, none, some (.iload_n 3, 1, .null), some (.ireturn, 1, .null), some (.iload_n 3, 1, .null), some (.iconst (-1), 1, .int (-1)), some (.if_icmp .ne 7, 3, .null), none],
  [none, some (.iconst 0, 1, .int 0), some (.goto 4, 3, .null), none, none, some (.iconst 1, 1, .int 1), some (.ireturn, 1, .null)]]
def m_X11_change : AmM := (yX11_change, cX11_change, 11, 4, (some .int), k_X11_change)
def k_X11_amounts : List (List (Option AmI)) := [[some (.aload_n 0, 1, .null), some (.getfield 19, 3, .null), none, none, some (.invokevirtual 173, 3, .null), none, none, some (.ifCond .ne 5, 3, .null)],
  [none, none, some (.iconst (-1), 1, .int (-1)), some (.ireturn, 1, .null), some (.aload_n 0, 1, .null), some (.getfield 70, 3, .null), none, none],
  [some (.aload_n 0, 1, .null), some (.getfield 157, 3, .null), none, none, some (.invokevirtual 328, 3, .null), none, none, some (.iconst 0, 1, .int 0)],
  [some (.istore_n 1, 1, .null), some (.iconst 1, 1, .int 1), some (.istore_n 2, 1, .null), some (.iload_n 2, 1, .null), some (.bipush 99, 2, .int 99), none, some (.if_icmp .gt 24, 3, .null), none],
  [none, some (.aload_n 0, 1, .null), some (.getfield 70, 3, .null), none, none, some (.iload_n 2, 1, .null), some (.invokevirtual 331, 3, .null), none],
  [none, some (.iconst (-1), 1, .int (-1)), some (.if_icmp .eq 6, 3, .null), none, none, some (.iinc 1 1, 3, .int 1), none, none],
  [some (.iinc 2 1, 3, .int 1), none, none, some (.goto (-24), 3, .null), none, none, some (.iload_n 1, 1, .null), some (.ireturn, 1, .null)]]
def m_X11_amounts : AmM := (yX11_amounts, cX11_amounts, 11, 3, (some .int), k_X11_amounts)
def k_X11_helps : List (List (Option AmI)) := [[some (.aload_n 0, 1, .null), some (.iload_n 1, 1, .null), some (.invokevirtual 200, 3, .null), none, none, some (.ifCond .eq 22, 3, .null), none, none],
  [some (.aload_n 0, 1, .null), some (.getfield 95, 3, .null), none, none, some (.aload_n 0, 1, .null), some (.getfield 157, 3, .null), none, none],
  [some (.iload_n 1, 1, .null), some (.aload_n 0, 1, .null), some (.getfield 154, 3, .null), none, none, some (.invokevirtual 334, 3, .null), none, none],
  [some (.goto 4, 3, .null), none, none, some (.iconst (-1), 1, .int (-1)), some (.ireturn, 1, .null)]]
def m_X11_helps : AmM := (yX11_helps, cX11_helps, 11, 2, (some .int), k_X11_helps)
def k_X11_spoils : List (List (Option AmI)) := [[some (.aload_n 0, 1, .null), some (.iload_n 1, 1, .null), some (.invokevirtual 200, 3, .null), none, none, some (.ifCond .eq 22, 3, .null), none, none],
  [some (.aload_n 0, 1, .null), some (.getfield 95, 3, .null), none, none, some (.aload_n 0, 1, .null), some (.getfield 157, 3, .null), none, none],
  [some (.iload_n 1, 1, .null), some (.aload_n 0, 1, .null), some (.getfield 154, 3, .null), none, none, some (.invokevirtual 337, 3, .null), none, none],
  [some (.goto 4, 3, .null), none, none, some (.iconst (-1), 1, .int (-1)), some (.ireturn, 1, .null)]]
def m_X11_spoils : AmM := (yX11_spoils, cX11_spoils, 11, 2, (some .int), k_X11_spoils)
def k_X11_wise : List (List (Option AmI)) := [[some (.iload_n 2, 1, .null), some (.ifCond .lt 16, 3, .null), none, none, some (.iload_n 2, 1, .null), some (.iconst 1, 1, .int 1), some (.if_icmp .gt 11, 3, .null), none],
  [none, some (.aload_n 0, 1, .null), some (.iload_n 1, 1, .null), some (.invokevirtual 200, 3, .null), none, none, some (.ifCond .ne 5, 3, .null), none],
  [none, some (.iconst (-1), 1, .int (-1)), some (.ireturn, 1, .null), some (.aload_n 0, 1, .null), some (.iload_n 1, 1, .null), some (.invokevirtual 238, 3, .null), none, none],
  [some (.ifCond .ne 6, 3, .null), none, none, some (.bipush (-2), 2, .int (-2)), none, some (.ireturn, 1, .null), some (.aload_n 0, 1, .null), some (.getfield 95, 3, .null)],
  [none, none, some (.iload_n 1, 1, .null), some (.aload_n 0, 1, .null), some (.getfield 154, 3, .null), none, none, some (.iload_n 2, 1, .null)],
  [some (.invokevirtual 340, 3, .null), none, none, some (.ireturn, 1, .null)]]
def m_X11_wise : AmM := (yX11_wise, cX11_wise, 11, 3, (some .int), k_X11_wise)
def k_X11_rich : List (List (Option AmI)) := [[some (.iload_n 2, 1, .null), some (.ifCond .lt 16, 3, .null), none, none, some (.iload_n 2, 1, .null), some (.iconst 1, 1, .int 1), some (.if_icmp .gt 11, 3, .null), none],
  [none, some (.aload_n 0, 1, .null), some (.iload_n 1, 1, .null), some (.invokevirtual 200, 3, .null), none, none, some (.ifCond .ne 5, 3, .null), none],
  [none, some (.iconst (-1), 1, .int (-1)), some (.ireturn, 1, .null), some (.aload_n 0, 1, .null), some (.iload_n 1, 1, .null), some (.invokevirtual 238, 3, .null), none, none],
  [some (.ifCond .ne 6, 3, .null), none, none, some (.bipush (-2), 2, .int (-2)), none, some (.ireturn, 1, .null), some (.iload_n 2, 1, .null), some (.ifCond .ne 13, 3, .null)],
  [none, none, some (.aload_n 0, 1, .null), some (.getfield 77, 3, .null), none, none, some (.invokevirtual 343, 3, .null), none],
  [none, some (.goto 10, 3, .null), none, none, some (.aload_n 0, 1, .null), some (.getfield 77, 3, .null), none, none],
  [some (.invokevirtual 346, 3, .null), none, none, some (.ireturn, 1, .null)]]
def m_X11_rich : AmM := (yX11_rich, cX11_rich, 11, 3, (some .int), k_X11_rich)
def k_X11_chain : List (List (Option AmI)) := [[some (.aload_n 0, 1, .null), some (.getfield 154, 3, .null), none, none, some (.ifCond .ne 7, 3, .null), none, none, some (.iconst (-1), 1, .int (-1))],
  [some (.goto 18, 3, .null), none, none, some (.aload_n 0, 1, .null), some (.getfield 86, 3, .null), none, none, some (.aload_n 0, 1, .null)],
  [some (.getfield 157, 3, .null), none, none, some (.aload_n 0, 1, .null), some (.getfield 154, 3, .null), none, none, some (.invokevirtual 349, 3, .null)],
  [none, none, some (.ireturn, 1, .null)]]
def m_X11_chain : AmM := (yX11_chain, cX11_chain, 11, 1, (some .int), k_X11_chain)
def k_X11_mean : List (List (Option AmI)) := [[some (.aload_n 0, 1, .null), some (.iload_n 1, 1, .null), some (.invokevirtual 293, 3, .null), none, none, some (.ifCond .eq 43, 3, .null), none, none],
  [some (.iload_n 2, 1, .null), some (.iconst 1, 1, .int 1), some (.if_icmp .lt 38, 3, .null), none, none, some (.iload_n 2, 1, .null), some (.bipush 60, 2, .int 60), none],
  [some (.if_icmp .gt 32, 3, .null), none, none, some (.iload_n 3, 1, .null), some (.iconst 1, 1, .int 1), some (.if_icmp .lt 27, 3, .null), none, none],
  [some (.iload_n 3, 1, .null), some (.bipush 20, 2, .int 20), none, some (.if_icmp .gt 21, 3, .null), none, none, some (.iload 4, 2, .null), none],
  [some (.ifCond .lt 16, 3, .null), none, none, some (.iload 4, 2, .null), none, some (.iconst 1, 1, .int 1), some (.if_icmp .gt 10, 3, .null), none],
  [none, some (.aload_n 0, 1, .null), some (.getfield 154, 3, .null), none, none, some (.ifCond .ne 5, 3, .null), none, none],
  [some (.iconst (-1), 1, .int (-1)), some (.ireturn, 1, .null), some (.iconst 0, 1, .int 0), some (.istore 5, 2, .null), none, some (.iload_n 2, 1, .null), some (.istore 6, 2, .null), none],
  [some (.iconst 0, 1, .int 0), some (.istore 7, 2, .null), none, some (.iconst 0, 1, .int 0), some (.istore 8, 2, .null), none, some (.iload 8, 2, .null), none],
  [some (.iload_n 3, 1, .null), some (.if_icmp .ge 61, 3, .null), none, none, some (.aload_n 0, 1, .null), some (.getfield 104, 3, .null), none, none],
  [some (.aload_n 0, 1, .null), some (.getfield 157, 3, .null), none, none, some (.aload_n 0, 1, .null), some (.getfield 54, 3, .null), none, none],
  [some (.iload_n 1, 1, .null), some (.aaload, 1, .null), some (.iload_n 2, 1, .null), some (.iload 8, 2, .null), none, some (.i2l, 1, .null), some (.aload_n 0, 1, .null), some (.getfield 154, 3, .null)],
  [none, none, some (.invokevirtual 313, 3, .null), none, none, some (.istore 9, 2, .null), none, some (.iload 5, 2, .null)],
  [none, some (.iload 9, 2, .null), none, some (.iadd, 1, .null), some (.istore 5, 2, .null), none, some (.iload 6, 2, .null), none],
  [some (.iload 9, 2, .null), none, some (.invokestatic 325, 3, .null), none, none, some (.istore 6, 2, .null), none, some (.iload 7, 2, .null)],
  [none, some (.iload 9, 2, .null), none, some (.invokestatic 320, 3, .null), none, none, some (.istore 7, 2, .null), none],
  [some (.iinc 8 1, 3, .int 1), none, none, some (.goto (-61), 3, .null), none, none, some (.iload 4, 2, .null), none],
  [some (.ifCond .ne 8, 3, .null), none, none, some (.iload 5, 2, .null), none, some (.goto 8, 3, .null), none, none],
  [some (.iload 7, 2, .null), none, some (.iload 6, 2, .null), none, some (.isub, 1, .null), some (.ireturn, 1, .null)]]
def m_X11_mean : AmM := (yX11_mean, cX11_mean, 11, 10, (some .int), k_X11_mean)
def k_X11_image : List (List (Option AmI)) := [[some (.aload_n 0, 1, .null), some (.getfield 19, 3, .null), none, none, some (.invokevirtual 173, 3, .null), none, none, some (.ifCond .ne 5, 3, .null)],
  [none, none, some (.iconst (-1), 1, .int (-1)), some (.ireturn, 1, .null), some (.aload_n 0, 1, .null), some (.iconst 1, 1, .int 1), some (.putfield 160, 3, .null), none],
  [none, some (.aload_n 0, 1, .null), some (.aload_n 0, 1, .null), some (.getfield 157, 3, .null), none, none, some (.putfield 352, 3, .null), none],
  [none, some (.aload_n 0, 1, .null), some (.getfield 58, 3, .null), none, none, some (.iconst 0, 1, .int 0), some (.aload_n 0, 1, .null), some (.getfield 62, 3, .null)],
  [none, none, some (.iconst 0, 1, .int 0), some (.iconst 4, 1, .int 4), some (.invokestatic 355, 3, .null), none, none, some (.aload_n 0, 1, .null)],
  [some (.getfield 157, 3, .null), none, none, some (.invokestatic 287, 3, .null), none, none, some (.ireturn, 1, .null)]]
def m_X11_image : AmM := (yX11_image, cX11_image, 11, 1, (some .int), k_X11_image)
def k_X11_back : List (List (Option AmI)) := [[some (.aload_n 0, 1, .null), some (.getfield 160, 3, .null), none, none, some (.ifCond .ne 5, 3, .null), none, none, some (.iconst (-1), 1, .int (-1))],
  [some (.ireturn, 1, .null), some (.aload_n 0, 1, .null), some (.aload_n 0, 1, .null), some (.getfield 352, 3, .null), none, none, some (.putfield 157, 3, .null), none],
  [none, some (.aload_n 0, 1, .null), some (.getfield 62, 3, .null), none, none, some (.iconst 0, 1, .int 0), some (.aload_n 0, 1, .null), some (.getfield 58, 3, .null)],
  [none, none, some (.iconst 0, 1, .int 0), some (.iconst 4, 1, .int 4), some (.invokestatic 355, 3, .null), none, none, some (.aload_n 0, 1, .null)],
  [some (.getfield 157, 3, .null), none, none, some (.invokestatic 287, 3, .null), none, none, some (.ireturn, 1, .null)]]
def m_X11_back : AmM := (yX11_back, cX11_back, 11, 1, (some .int), k_X11_back)
def k_X11_count : List (List (Option AmI)) := [[some (.iload_n 1, 1, .null), some (.tableswitch 105 0 7 #[47, 55, 63, 71, 79, 84, 89, 97], 47, .null), none, none, none, none, none, none],
  [none, none, none, none, none, none, none, none],
  [none, none, none, none, none, none, none, none],
  [none, none, none, none, none, none, none, none],
  [none, none, none, none, none, none, none, none],
  [none, none, none, none, none, none, none, none],
  [some (.aload_n 0, 1, .null), some (.getfield 19, 3, .null), none, none, some (.getfield 170, 3, .null), none, none, some (.ireturn, 1, .null)],
  [some (.aload_n 0, 1, .null), some (.getfield 19, 3, .null), none, none, some (.getfield 361, 3, .null), none, none, some (.ireturn, 1, .null)],
  [some (.aload_n 0, 1, .null), some (.getfield 19, 3, .null), none, none, some (.getfield 231, 3, .null), none, none, some (.ireturn, 1, .null)],
  [some (.aload_n 0, 1, .null), some (.getfield 19, 3, .null), none, none, some (.getfield 219, 3, .null), none, none, some (.ireturn, 1, .null)],
  [some (.aload_n 0, 1, .null), some (.getfield 154, 3, .null), none, none, some (.ireturn, 1, .null), some (.aload_n 0, 1, .null), some (.getfield 180, 3, .null), none],
  [none, some (.ireturn, 1, .null), some (.aload_n 0, 1, .null), some (.getfield 10, 3, .null), none, none, some (.getfield 115, 3, .null), none],
  [none, some (.ireturn, 1, .null), some (.aload_n 0, 1, .null), some (.getfield 157, 3, .null), none, none, some (.invokestatic 287, 3, .null), none],
  [none, some (.ireturn, 1, .null), some (.bipush (-2), 2, .int (-2)), none, some (.ireturn, 1, .null)]]
def m_X11_count : AmM := (yX11_count, cX11_count, 11, 2, (some .int), k_X11_count)
def k_X11_isCustomer : List (List (Option AmI)) := [[some (.iload_n 1, 1, .null), some (.ifCond .lt 15, 3, .null), none, none, some (.iload_n 1, 1, .null), some (.aload_n 0, 1, .null), some (.getfield 154, 3, .null), none],
  [none, some (.if_icmp .ge 7, 3, .null), none, none, some (.iconst 1, 1, .int 1), some (.goto 4, 3, .null), none, none],
  [some (.iconst 0, 1, .int 0), some (.ireturn, 1, .null)]]
def m_X11_isCustomer : AmM := (yX11_isCustomer, cX11_isCustomer, 11, 2, (some .boolean), k_X11_isCustomer)
def k_X11_isRule : List (List (Option AmI)) := [[some (.iload_n 1, 1, .null), some (.ifCond .lt 15, 3, .null), none, none, some (.iload_n 1, 1, .null), some (.aload_n 0, 1, .null), some (.getfield 180, 3, .null), none],
  [none, some (.if_icmp .ge 7, 3, .null), none, none, some (.iconst 1, 1, .int 1), some (.goto 4, 3, .null), none, none],
  [some (.iconst 0, 1, .int 0), some (.ireturn, 1, .null)]]
def m_X11_isRule : AmM := (yX11_isRule, cX11_isRule, 11, 2, (some .boolean), k_X11_isRule)
def k_X12_init : List (List (Option AmI)) := [[some (.aload_n 0, 1, .null), some (.invokespecial 1, 3, .null), none, none, some (.aload_n 0, 1, .null), some (.sipush 160, 3, .int 160), none, none],
  [some (.newarray .byte, 2, .null), none, some (.putfield 9, 3, .null), none, none, some (.aload_n 0, 1, .null), some (.sipush 640, 3, .int 640), none],
  [none, some (.newarray .byte, 2, .null), none, some (.putfield 13, 3, .null), none, none, some (.aload_n 0, 1, .null), some (.iconst 4, 1, .int 4)],
  [some (.newarray .int, 2, .null), none, some (.putfield 16, 3, .null), none, none, some (.aload_n 0, 1, .null), some (.sipush 128, 3, .int 128), none],
  [none, some (.newarray .int, 2, .null), none, some (.putfield 20, 3, .null), none, none, some (.aload_n 0, 1, .null), some (.aload_n 0, 1, .null)],
  [some (.getfield 9, 3, .null), none, none, some (.putfield 23, 3, .null), none, none, some (.aload_n 0, 1, .null), some (.ldc 26, 2, .retAddr 0)],
  [none, some (.putfield 28, 3, .null), none, none, some (.aload_n 0, 1, .null), some (.ldc 32, 2, .retAddr 1), none, some (.putfield 34, 3, .null)],
  [none, none, some (.aload_n 0, 1, .null), some (.iconst 4, 1, .int 4), some (.newarray .int, 2, .null), none, some (.putfield 37, 3, .null), none],
  [none, some (.aload_n 0, 1, .null), some (.iconst 4, 1, .int 4), some (.newarray .int, 2, .null), none, some (.putfield 40, 3, .null), none, none],
  [some (.aload_n 0, 1, .null), some (.iconst 3, 1, .int 3), some (.newarray .int, 2, .null), none, some (.putfield 43, 3, .null), none, none, some (.aload_n 0, 1, .null)],
  [some (.iconst 5, 1, .int 5), some (.newarray .int, 2, .null), none, some (.putfield 46, 3, .null), none, none, some (.aload_n 0, 1, .null), some (.bipush 20, 2, .int 20)],
  [none, some (.newarray .int, 2, .null), none, some (.putfield 49, 3, .null), none, none, some (.aload_n 0, 1, .null), some (.bipush 10, 2, .int 10)],
  [none, some (.newarray .int, 2, .null), none, some (.putfield 52, 3, .null), none, none, some (.aload_n 0, 1, .null), some (.iconst 2, 1, .int 2)],
  [some (.newarray .int, 2, .null), none, some (.putfield 55, 3, .null), none, none, some (.aload_n 0, 1, .null), some (.iconst 4, 1, .int 4), some (.newarray .int, 2, .null)],
  [none, some (.putfield 58, 3, .null), none, none, some (.aload_n 0, 1, .null), some (.iconst 4, 1, .int 4), some (.newarray .int, 2, .null), none],
  [some (.putfield 61, 3, .null), none, none, some (.aload_n 0, 1, .null), some (.iconst 4, 1, .int 4), some (.newarray .int, 2, .null), none, some (.putfield 64, 3, .null)],
  [none, none, some (.aload_n 0, 1, .null), some (.sipush 1001, 3, .int 1001), none, none, some (.newarray .long, 2, .null), none],
  [some (.putfield 67, 3, .null), none, none, some (.aload_n 0, 1, .null), some (.ldc 71, 2, .int 72000), none, some (.newarray .int, 2, .null), none],
  [some (.putfield 72, 3, .null), none, none, some (.aload_n 0, 1, .null), some (.iconst 4, 1, .int 4), some (.newarray .int, 2, .null), none, some (.putfield 75, 3, .null)],
  [none, none, some (.aload_n 0, 1, .null), some (.sipush 201, 3, .int 201), none, none, some (.newarray .long, 2, .null), none],
  [some (.putfield 78, 3, .null), none, none, some (.aload_n 0, 1, .null), some (.sipush 201, 3, .int 201), none, none, some (.newarray .long, 2, .null)],
  [none, some (.putfield 81, 3, .null), none, none, some (.aload_n 0, 1, .null), some (.sipush 201, 3, .int 201), none, none],
  [some (.newarray .int, 2, .null), none, some (.putfield 84, 3, .null), none, none, some (.aload_n 0, 1, .null), some (.sipush 201, 3, .int 201), none],
  [none, some (.newarray .int, 2, .null), none, some (.putfield 87, 3, .null), none, none, some (.aload_n 0, 1, .null), some (.iconst 4, 1, .int 4)],
  [some (.newarray .int, 2, .null), none, some (.putfield 90, 3, .null), none, none, some (.aload_n 0, 1, .null), some (.iconst 4, 1, .int 4), some (.newarray .int, 2, .null)],
  [none, some (.putfield 93, 3, .null), none, none, some (.aload_n 0, 1, .null), some (.iconst 4, 1, .int 4), some (.newarray .int, 2, .null), none],
  [some (.putfield 96, 3, .null), none, none, some (.aload_n 0, 1, .null), some (.ldc 71, 2, .int 72000), none, some (.newarray .int, 2, .null), none],
  [some (.putfield 99, 3, .null), none, none, some (.aload_n 0, 1, .null), some (.sipush 1000, 3, .int 1000), none, none, some (.newarray .long, 2, .null)],
  [none, some (.putfield 102, 3, .null), none, none, some (.return_, 1, .null)]]
def m_X12_init : AmM := (yX12_init, cX12_init, 12, 1, none, k_X12_init)
def k_X12_thrown : List (List (Option AmI)) := [[some (.aload_n 0, 1, .null), some (.getfield 105, 3, .null), none, none, some (.ireturn, 1, .null)]]
def m_X12_thrown : AmM := (yX12_thrown, cX12_thrown, 12, 1, (some .int), k_X12_thrown)
def k_X12_isIn : List (List (Option AmI)) := [[some (.lload_n 0, 1, .null), some (.lload_n 2, 1, .null), some (.lcmp, 1, .null), some (.ifCond .lt 14, 3, .null), none, none, some (.lload_n 0, 1, .null), some (.lload 4, 2, .null)],
  [none, some (.lcmp, 1, .null), some (.ifCond .gt 7, 3, .null), none, none, some (.iconst 1, 1, .int 1), some (.goto 4, 3, .null), none],
  [none, some (.iconst 0, 1, .int 0), some (.ireturn, 1, .null)]]
def m_X12_isIn : AmM := (yX12_isIn, cX12_isIn, 12, 6, (some .boolean), k_X12_isIn)
def k_X12_has : List (List (Option AmI)) := [[some (.iload_n 0, 1, .null), some (.iload_n 1, 1, .null), some (.ishr, 1, .null), some (.iconst 1, 1, .int 1), some (.iand, 1, .null), some (.iconst 1, 1, .int 1), some (.if_icmp .ne 7, 3, .null), none],
  [none, some (.iconst 1, 1, .int 1), some (.goto 4, 3, .null), none, none, some (.iconst 0, 1, .int 0), some (.ireturn, 1, .null)]]
def m_X12_has : AmM := (yX12_has, cX12_has, 12, 2, (some .boolean), k_X12_has)
def k_X12_bytesIn : List (List (Option AmI)) := [[some (.iconst 0, 1, .int 0), some (.istore_n 1, 1, .null), some (.bipush 24, 2, .int 24), none, some (.istore_n 2, 1, .null), some (.iload_n 2, 1, .null), some (.ifCond .lt 27, 3, .null), none],
  [none, some (.iload_n 1, 1, .null), some (.iload_n 0, 1, .null), some (.iload_n 2, 1, .null), some (.ishr, 1, .null), some (.sipush 255, 3, .int 255), none, none],
  [some (.iand, 1, .null), some (.ifCond .eq 7, 3, .null), none, none, some (.iconst 1, 1, .int 1), some (.goto 4, 3, .null), none, none],
  [some (.iconst 0, 1, .int 0), some (.iadd, 1, .null), some (.istore_n 1, 1, .null), some (.iinc 2 (-8), 3, .int (-8)), none, none, some (.goto (-25), 3, .null), none],
  [none, some (.iload_n 1, 1, .null), some (.ireturn, 1, .null)]]
def m_X12_bytesIn : AmM := (yX12_bytesIn, cX12_bytesIn, 12, 3, (some .int), k_X12_bytesIn)
def k_X12_put : List (List (Option AmI)) := [[some (.bipush 24, 2, .int 24), none, some (.istore_n 2, 1, .null), some (.iload_n 2, 1, .null), some (.ifCond .lt 45, 3, .null), none, none, some (.iload_n 1, 1, .null)],
  [some (.iload_n 2, 1, .null), some (.ishr, 1, .null), some (.sipush 255, 3, .int 255), none, none, some (.iand, 1, .null), some (.ifCond .ne 6, 3, .null), none],
  [none, some (.goto 26, 3, .null), none, none, some (.aload_n 0, 1, .null), some (.getfield 9, 3, .null), none, none],
  [some (.aload_n 0, 1, .null), some (.getfield 119, 3, .null), none, none, some (.iload_n 1, 1, .null), some (.iload_n 2, 1, .null), some (.ishr, 1, .null), some (.i2b, 1, .null)],
  [some (.bastore, 1, .null), some (.aload_n 0, 1, .null), some (.dup, 1, .null), some (.getfield 119, 3, .null), none, none, some (.iconst 1, 1, .int 1), some (.iadd, 1, .null)],
  [some (.putfield 119, 3, .null), none, none, some (.iinc 2 (-8), 3, .int (-8)), none, none, some (.goto (-43), 3, .null), none],
  [none, some (.return_, 1, .null)]]
def m_X12_put : AmM := (yX12_put, cX12_put, 12, 3, none, k_X12_put)
def k_X12_feed : List (List (Option AmI)) := [[some (.aload_n 0, 1, .null), some (.iconst 0, 1, .int 0), some (.putfield 105, 3, .null), none, none, some (.aload_n 0, 1, .null), some (.getfield 119, 3, .null), none],
  [none, some (.iload_n 1, 1, .null), some (.invokestatic 121, 3, .null), none, none, some (.iadd, 1, .null), some (.iload_n 2, 1, .null), some (.invokestatic 121, 3, .null)],
  [none, none, some (.iadd, 1, .null), some (.iload_n 3, 1, .null), some (.invokestatic 121, 3, .null), none, none, some (.iadd, 1, .null)],
  [some (.iload 4, 2, .null), none, some (.invokestatic 121, 3, .null), none, none, some (.iadd, 1, .null), some (.iload 5, 2, .null), none],
  [some (.invokestatic 121, 3, .null), none, none, some (.iadd, 1, .null), some (.sipush 160, 3, .int 160), none, none, some (.if_icmp .le 5, 3, .null)],
  [none, none, some (.iconst (-1), 1, .int (-1)), some (.ireturn, 1, .null), some (.aload_n 0, 1, .null), some (.iload_n 1, 1, .null), some (.invokevirtual 125, 3, .null), none],
  [none, some (.aload_n 0, 1, .null), some (.iload_n 2, 1, .null), some (.invokevirtual 125, 3, .null), none, none, some (.aload_n 0, 1, .null), some (.iload_n 3, 1, .null)],
  [some (.invokevirtual 125, 3, .null), none, none, some (.aload_n 0, 1, .null), some (.iload 4, 2, .null), none, some (.invokevirtual 125, 3, .null), none],
  [none, some (.aload_n 0, 1, .null), some (.iload 5, 2, .null), none, some (.invokevirtual 125, 3, .null), none, none, some (.aload_n 0, 1, .null)],
  [some (.getfield 119, 3, .null), none, none, some (.ireturn, 1, .null)]]
def m_X12_feed : AmM := (yX12_feed, cX12_feed, 12, 6, (some .int), k_X12_feed)
def k_X12_end : List (List (Option AmI)) := [[some (.aload_n 0, 1, .null), some (.iconst 0, 1, .int 0), some (.putfield 105, 3, .null), none, none, some (.iload_n 1, 1, .null), some (.ifCond .lt 11, 3, .null), none],
  [none, some (.iload_n 1, 1, .null), some (.aload_n 0, 1, .null), some (.getfield 119, 3, .null), none, none, some (.if_icmp .le 5, 3, .null), none],
  [none, some (.iconst 0, 1, .int 0), some (.ireturn, 1, .null), some (.aload_n 0, 1, .null), some (.iload_n 1, 1, .null), some (.putfield 119, 3, .null), none, none],
  [some (.iconst 1, 1, .int 1), some (.ireturn, 1, .null)]]
def m_X12_end : AmM := (yX12_end, cX12_end, 12, 2, (some .boolean), k_X12_end)
def k_X12_look : List (List (Option AmI)) := [[some (.aload_n 0, 1, .null), some (.getfield 129, 3, .null), none, none, some (.aload_n 0, 1, .null), some (.getfield 132, 3, .null), none, none],
  [some (.if_icmp .ge 35, 3, .null), none, none, some (.aload_n 0, 1, .null), some (.getfield 23, 3, .null), none, none, some (.aload_n 0, 1, .null)],
  [some (.getfield 135, 3, .null), none, none, some (.aload_n 0, 1, .null), some (.getfield 129, 3, .null), none, none, some (.iadd, 1, .null)],
  [some (.baload, 1, .null), some (.bipush 32, 2, .int 32), none, some (.if_icmp .ne 16, 3, .null), none, none, some (.aload_n 0, 1, .null), some (.dup, 1, .null)],
  [some (.getfield 129, 3, .null), none, none, some (.iconst 1, 1, .int 1), some (.iadd, 1, .null), some (.putfield 129, 3, .null), none, none],
  [some (.goto (-40), 3, .null), none, none, some (.aload_n 0, 1, .null), some (.getfield 129, 3, .null), none, none, some (.aload_n 0, 1, .null)],
  [some (.getfield 132, 3, .null), none, none, some (.if_icmp .ge 24, 3, .null), none, none, some (.aload_n 0, 1, .null), some (.getfield 23, 3, .null)],
  [none, none, some (.aload_n 0, 1, .null), some (.getfield 135, 3, .null), none, none, some (.aload_n 0, 1, .null), some (.getfield 129, 3, .null)],
  [none, none, some (.iadd, 1, .null), some (.baload, 1, .null), some (.sipush 255, 3, .int 255), none, none, some (.iand, 1, .null)],
  [some (.goto 4, 3, .null), none, none, some (.iconst (-1), 1, .int (-1)), some (.ireturn, 1, .null)]]
def m_X12_look : AmM := (yX12_look, cX12_look, 12, 1, (some .int), k_X12_look)
def k_X12_fails : List (List (Option AmI)) := [[some (.aload_n 0, 1, .null), some (.getfield 138, 3, .null), none, none, some (.iconst (-1), 1, .int (-1)), some (.if_icmp .ne 11, 3, .null), none, none],
  [some (.aload_n 0, 1, .null), some (.aload_n 0, 1, .null), some (.getfield 129, 3, .null), none, none, some (.putfield 138, 3, .null), none, none],
  [some (.iconst 0, 1, .int 0), some (.ireturn, 1, .null)]]
def m_X12_fails : AmM := (yX12_fails, cX12_fails, 12, 1, (some .boolean), k_X12_fails)
def k_X12_goesIn : List (List (Option AmI)) := [[some (.aload_n 0, 1, .null), some (.getfield 141, 3, .null), none, none, some (.bipush 6, 2, .int 6), none, some (.if_icmp .ne 8, 3, .null), none],
  [none, some (.aload_n 0, 1, .null), some (.invokevirtual 144, 3, .null), none, none, some (.ireturn, 1, .null), some (.aload_n 0, 1, .null), some (.dup, 1, .null)],
  [some (.getfield 141, 3, .null), none, none, some (.iconst 1, 1, .int 1), some (.iadd, 1, .null), some (.putfield 141, 3, .null), none, none],
  [some (.aload_n 0, 1, .null), some (.dup, 1, .null), some (.getfield 129, 3, .null), none, none, some (.iconst 1, 1, .int 1), some (.iadd, 1, .null), some (.putfield 129, 3, .null)],
  [none, none, some (.iconst 1, 1, .int 1), some (.ireturn, 1, .null)]]
def m_X12_goesIn : AmM := (yX12_goesIn, cX12_goesIn, 12, 1, (some .boolean), k_X12_goesIn)
def k_X12_takes : List (List (Option AmI)) := [[some (.aload_n 0, 1, .null), some (.getfield 138, 3, .null), none, none, some (.iconst (-1), 1, .int (-1)), some (.if_icmp .ne 11, 3, .null), none, none],
  [some (.aload_n 0, 1, .null), some (.invokevirtual 148, 3, .null), none, none, some (.iload_n 1, 1, .null), some (.if_icmp .eq 8, 3, .null), none, none],
  [some (.aload_n 0, 1, .null), some (.invokevirtual 144, 3, .null), none, none, some (.ireturn, 1, .null), some (.aload_n 0, 1, .null), some (.dup, 1, .null), some (.getfield 129, 3, .null)],
  [none, none, some (.iconst 1, 1, .int 1), some (.iadd, 1, .null), some (.putfield 129, 3, .null), none, none, some (.iconst 1, 1, .int 1)],
  [some (.ireturn, 1, .null)]]
def m_X12_takes : AmM := (yX12_takes, cX12_takes, 12, 2, (some .boolean), k_X12_takes)
def k_X12_isDigit : List (List (Option AmI)) := [[some (.aload_n 0, 1, .null), some (.getfield 129, 3, .null), none, none, some (.aload_n 0, 1, .null), some (.getfield 132, 3, .null), none, none],
  [some (.if_icmp .ge 45, 3, .null), none, none, some (.aload_n 0, 1, .null), some (.getfield 23, 3, .null), none, none, some (.aload_n 0, 1, .null)],
  [some (.getfield 135, 3, .null), none, none, some (.aload_n 0, 1, .null), some (.getfield 129, 3, .null), none, none, some (.iadd, 1, .null)],
  [some (.baload, 1, .null), some (.bipush 48, 2, .int 48), none, some (.if_icmp .lt 26, 3, .null), none, none, some (.aload_n 0, 1, .null), some (.getfield 23, 3, .null)],
  [none, none, some (.aload_n 0, 1, .null), some (.getfield 135, 3, .null), none, none, some (.aload_n 0, 1, .null), some (.getfield 129, 3, .null)],
  [none, none, some (.iadd, 1, .null), some (.baload, 1, .null), some (.bipush 57, 2, .int 57), none, some (.if_icmp .gt 7, 3, .null), none],
  [none, some (.iconst 1, 1, .int 1), some (.goto 4, 3, .null), none, none, some (.iconst 0, 1, .int 0), some (.ireturn, 1, .null)]]
def m_X12_isDigit : AmM := (yX12_isDigit, cX12_isDigit, 12, 1, (some .boolean), k_X12_isDigit)
def k_X12_within : List (List (Option AmI)) := [[some (.ldc2_w 151, 3, .long (-1000000)), none, none, some (.ldc2_w 153, 3, .long 1000000), none, none, some (.lload_n 0, 1, .null), some (.invokestatic 155, 3, .null)],
  [none, none, some (.invokestatic 161, 3, .null), none, none, some (.l2i, 1, .null), some (.ireturn, 1, .null)]]
def m_X12_within : AmM := (yX12_within, cX12_within, 12, 2, (some .int), k_X12_within)
def k_X12_atom : List (List (Option AmI)) := [[some (.aload_n 0, 1, .null), some (.invokevirtual 148, 3, .null), none, none, some (.istore_n 1, 1, .null), some (.ldc 32, 2, .retAddr 1), none, some (.iload_n 1, 1, .null)],
  [some (.invokestatic 164, 3, .null), none, none, some (.ifCond .eq 20, 3, .null), none, none, some (.aload_n 0, 1, .null), some (.dup, 1, .null)],
  [some (.getfield 129, 3, .null), none, none, some (.iconst 1, 1, .int 1), some (.iadd, 1, .null), some (.putfield 129, 3, .null), none, none],
  [some (.aload_n 0, 1, .null), some (.getfield 20, 3, .null), none, none, some (.iload_n 1, 1, .null), some (.iaload, 1, .null), some (.ireturn, 1, .null), some (.iload_n 1, 1, .null)],
  [some (.bipush 91, 2, .int 91), none, some (.if_icmp .ne 40, 3, .null), none, none, some (.aload_n 0, 1, .null), some (.invokevirtual 168, 3, .null), none],
  [none, some (.ifCond .ne 5, 3, .null), none, none, some (.iconst 0, 1, .int 0), some (.ireturn, 1, .null), some (.aload_n 0, 1, .null), some (.invokevirtual 171, 3, .null)],
  [none, none, some (.istore_n 2, 1, .null), some (.aload_n 0, 1, .null), some (.bipush 93, 2, .int 93), none, some (.invokevirtual 174, 3, .null), none],
  [none, some (.ifCond .ne 5, 3, .null), none, none, some (.iconst 0, 1, .int 0), some (.ireturn, 1, .null), some (.aload_n 0, 1, .null), some (.dup, 1, .null)],
  [some (.getfield 141, 3, .null), none, none, some (.iconst 1, 1, .int 1), some (.isub, 1, .null), some (.putfield 141, 3, .null), none, none],
  [some (.iload_n 2, 1, .null), some (.ireturn, 1, .null), some (.aload_n 0, 1, .null), some (.invokevirtual 178, 3, .null), none, none, some (.ifCond .ne 8, 3, .null), none],
  [none, some (.aload_n 0, 1, .null), some (.invokevirtual 144, 3, .null), none, none, some (.pop, 1, .null), some (.iconst 0, 1, .int 0), some (.istore_n 2, 1, .null)],
  [some (.iconst 0, 1, .int 0), some (.istore_n 3, 1, .null), some (.aload_n 0, 1, .null), some (.invokevirtual 178, 3, .null), none, none, some (.ifCond .eq 62, 3, .null), none],
  [none, some (.aload_n 0, 1, .null), some (.getfield 138, 3, .null), none, none, some (.iconst (-1), 1, .int (-1)), some (.if_icmp .ne 54, 3, .null), none],
  [none, some (.iload_n 3, 1, .null), some (.iconst 4, 1, .int 4), some (.if_icmp .ne 10, 3, .null), none, none, some (.aload_n 0, 1, .null), some (.invokevirtual 144, 3, .null)],
  [none, none, some (.pop, 1, .null), some (.iconst 0, 1, .int 0), some (.ireturn, 1, .null), some (.bipush 10, 2, .int 10), none, some (.iload_n 2, 1, .null)],
  [some (.imul, 1, .null), some (.aload_n 0, 1, .null), some (.getfield 23, 3, .null), none, none, some (.aload_n 0, 1, .null), some (.getfield 135, 3, .null), none],
  [none, some (.aload_n 0, 1, .null), some (.getfield 129, 3, .null), none, none, some (.iadd, 1, .null), some (.baload, 1, .null), some (.iadd, 1, .null)],
  [some (.bipush 48, 2, .int 48), none, some (.isub, 1, .null), some (.istore_n 2, 1, .null), some (.aload_n 0, 1, .null), some (.dup, 1, .null), some (.getfield 129, 3, .null), none],
  [none, some (.iconst 1, 1, .int 1), some (.iadd, 1, .null), some (.putfield 129, 3, .null), none, none, some (.iinc 3 1, 3, .int 1), none],
  [none, some (.goto (-63), 3, .null), none, none, some (.iload_n 2, 1, .null), some (.ireturn, 1, .null)]]
def m_X12_atom : AmM := (yX12_atom, cX12_atom, 12, 4, (some .int), k_X12_atom)
def k_X12_term : List (List (Option AmI)) := [[some (.aload_n 0, 1, .null), some (.invokevirtual 181, 3, .null), none, none, some (.istore_n 1, 1, .null), some (.aload_n 0, 1, .null), some (.getfield 138, 3, .null), none],
  [none, some (.iconst (-1), 1, .int (-1)), some (.if_icmp .ne 84, 3, .null), none, none, some (.aload_n 0, 1, .null), some (.invokevirtual 148, 3, .null), none],
  [none, some (.bipush 42, 2, .int 42), none, some (.if_icmp .eq 12, 3, .null), none, none, some (.aload_n 0, 1, .null), some (.invokevirtual 148, 3, .null)],
  [none, none, some (.bipush 47, 2, .int 47), none, some (.if_icmp .ne 66, 3, .null), none, none, some (.aload_n 0, 1, .null)],
  [some (.invokevirtual 148, 3, .null), none, none, some (.bipush 42, 2, .int 42), none, some (.if_icmp .ne 7, 3, .null), none, none],
  [some (.iconst 1, 1, .int 1), some (.goto 4, 3, .null), none, none, some (.iconst 0, 1, .int 0), some (.istore_n 2, 1, .null), some (.aload_n 0, 1, .null), some (.dup, 1, .null)],
  [some (.getfield 129, 3, .null), none, none, some (.iconst 1, 1, .int 1), some (.iadd, 1, .null), some (.putfield 129, 3, .null), none, none],
  [some (.aload_n 0, 1, .null), some (.invokevirtual 181, 3, .null), none, none, some (.i2l, 1, .null), some (.lstore_n 3, 1, .null), some (.iload_n 2, 1, .null), some (.ifCond .eq 10, 3, .null)],
  [none, none, some (.iload_n 1, 1, .null), some (.i2l, 1, .null), some (.lload_n 3, 1, .null), some (.lmul, 1, .null), some (.goto 17, 3, .null), none],
  [none, some (.lload_n 3, 1, .null), some (.lconst 0, 1, .long 0), some (.lcmp, 1, .null), some (.ifCond .ne 7, 3, .null), none, none, some (.lconst 0, 1, .long 0)],
  [some (.goto 7, 3, .null), none, none, some (.iload_n 1, 1, .null), some (.i2l, 1, .null), some (.lload_n 3, 1, .null), some (.ldiv, 1, .null), some (.invokestatic 184, 3, .null)],
  [none, none, some (.istore_n 1, 1, .null), some (.goto (-86), 3, .null), none, none, some (.iload_n 1, 1, .null), some (.ireturn, 1, .null)]]
def m_X12_term : AmM := (yX12_term, cX12_term, 12, 5, (some .int), k_X12_term)
def k_X12_sum : List (List (Option AmI)) := [[some (.aload_n 0, 1, .null), some (.invokevirtual 188, 3, .null), none, none, some (.istore_n 1, 1, .null), some (.aload_n 0, 1, .null), some (.getfield 138, 3, .null), none],
  [none, some (.iconst (-1), 1, .int (-1)), some (.if_icmp .ne 74, 3, .null), none, none, some (.aload_n 0, 1, .null), some (.invokevirtual 148, 3, .null), none],
  [none, some (.bipush 43, 2, .int 43), none, some (.if_icmp .eq 12, 3, .null), none, none, some (.aload_n 0, 1, .null), some (.invokevirtual 148, 3, .null)],
  [none, none, some (.bipush 45, 2, .int 45), none, some (.if_icmp .ne 56, 3, .null), none, none, some (.aload_n 0, 1, .null)],
  [some (.invokevirtual 148, 3, .null), none, none, some (.bipush 43, 2, .int 43), none, some (.if_icmp .ne 7, 3, .null), none, none],
  [some (.iconst 1, 1, .int 1), some (.goto 4, 3, .null), none, none, some (.iconst 0, 1, .int 0), some (.istore_n 2, 1, .null), some (.aload_n 0, 1, .null), some (.dup, 1, .null)],
  [some (.getfield 129, 3, .null), none, none, some (.iconst 1, 1, .int 1), some (.iadd, 1, .null), some (.putfield 129, 3, .null), none, none],
  [some (.aload_n 0, 1, .null), some (.invokevirtual 188, 3, .null), none, none, some (.i2l, 1, .null), some (.lstore_n 3, 1, .null), some (.iload_n 2, 1, .null), some (.ifCond .eq 10, 3, .null)],
  [none, none, some (.iload_n 1, 1, .null), some (.i2l, 1, .null), some (.lload_n 3, 1, .null), some (.ladd, 1, .null), some (.goto 7, 3, .null), none],
  [none, some (.iload_n 1, 1, .null), some (.i2l, 1, .null), some (.lload_n 3, 1, .null), some (.lsub, 1, .null), some (.invokestatic 184, 3, .null), none, none],
  [some (.istore_n 1, 1, .null), some (.goto (-76), 3, .null), none, none, some (.iload_n 1, 1, .null), some (.ireturn, 1, .null)]]
def m_X12_sum : AmM := (yX12_sum, cX12_sum, 12, 5, (some .int), k_X12_sum)
def k_X12_isSign : List (List (Option AmI)) := [[some (.iload_n 0, 1, .null), some (.bipush 61, 2, .int 61), none, some (.if_icmp .eq 15, 3, .null), none, none, some (.iload_n 0, 1, .null), some (.bipush 60, 2, .int 60)],
  [none, some (.if_icmp .eq 9, 3, .null), none, none, some (.iload_n 0, 1, .null), some (.bipush 62, 2, .int 62), none, some (.if_icmp .ne 7, 3, .null)],
  [none, none, some (.iconst 1, 1, .int 1), some (.goto 4, 3, .null), none, none, some (.iconst 0, 1, .int 0), some (.ireturn, 1, .null)]]
def m_X12_isSign : AmM := (yX12_isSign, cX12_isSign, 12, 1, (some .boolean), k_X12_isSign)
def k_X12_compares : List (List (Option AmI)) := [[some (.iload_n 1, 1, .null), some (.ifCond .eq 7, 3, .null), none, none, some (.iload_n 2, 1, .null), some (.goto 7, 3, .null), none, none],
  [some (.aload_n 0, 1, .null), some (.invokevirtual 171, 3, .null), none, none, some (.istore_n 3, 1, .null), some (.aload_n 0, 1, .null), some (.getfield 138, 3, .null), none],
  [none, some (.iconst (-1), 1, .int (-1)), some (.if_icmp .eq 5, 3, .null), none, none, some (.iconst 0, 1, .int 0), some (.ireturn, 1, .null), some (.aload_n 0, 1, .null)],
  [some (.invokevirtual 148, 3, .null), none, none, some (.istore 4, 2, .null), none, some (.iload 4, 2, .null), none, some (.invokestatic 191, 3, .null)],
  [none, none, some (.ifCond .ne 8, 3, .null), none, none, some (.aload_n 0, 1, .null), some (.invokevirtual 144, 3, .null), none],
  [none, some (.ireturn, 1, .null), some (.aload_n 0, 1, .null), some (.dup, 1, .null), some (.getfield 129, 3, .null), none, none, some (.iconst 1, 1, .int 1)],
  [some (.iadd, 1, .null), some (.putfield 129, 3, .null), none, none, some (.aload_n 0, 1, .null), some (.invokevirtual 171, 3, .null), none, none],
  [some (.istore 5, 2, .null), none, some (.iload 4, 2, .null), none, some (.bipush 61, 2, .int 61), none, some (.if_icmp .ne 17, 3, .null), none],
  [none, some (.iload_n 3, 1, .null), some (.iload 5, 2, .null), none, some (.if_icmp .ne 7, 3, .null), none, none, some (.iconst 1, 1, .int 1)],
  [some (.goto 39, 3, .null), none, none, some (.iconst 0, 1, .int 0), some (.goto 35, 3, .null), none, none, some (.iload 4, 2, .null)],
  [none, some (.bipush 60, 2, .int 60), none, some (.if_icmp .ne 17, 3, .null), none, none, some (.iload_n 3, 1, .null), some (.iload 5, 2, .null)],
  [none, some (.if_icmp .ge 7, 3, .null), none, none, some (.iconst 1, 1, .int 1), some (.goto 18, 3, .null), none, none],
  [some (.iconst 0, 1, .int 0), some (.goto 14, 3, .null), none, none, some (.iload_n 3, 1, .null), some (.iload 5, 2, .null), none, some (.if_icmp .le 7, 3, .null)],
  [none, none, some (.iconst 1, 1, .int 1), some (.goto 4, 3, .null), none, none, some (.iconst 0, 1, .int 0), some (.ireturn, 1, .null)]]
def m_X12_compares : AmM := (yX12_compares, cX12_compares, 12, 6, (some .boolean), k_X12_compares)
def k_X12_unit : List (List (Option AmI)) := [[some (.aload_n 0, 1, .null), some (.invokevirtual 148, 3, .null), none, none, some (.istore_n 1, 1, .null), some (.iload_n 1, 1, .null), some (.bipush 33, 2, .int 33), none],
  [some (.if_icmp .ne 37, 3, .null), none, none, some (.aload_n 0, 1, .null), some (.invokevirtual 168, 3, .null), none, none, some (.ifCond .ne 5, 3, .null)],
  [none, none, some (.iconst 0, 1, .int 0), some (.ireturn, 1, .null), some (.aload_n 0, 1, .null), some (.invokevirtual 194, 3, .null), none, none],
  [some (.istore_n 2, 1, .null), some (.aload_n 0, 1, .null), some (.dup, 1, .null), some (.getfield 141, 3, .null), none, none, some (.iconst 1, 1, .int 1), some (.isub, 1, .null)],
  [some (.putfield 141, 3, .null), none, none, some (.iload_n 2, 1, .null), some (.ifCond .ne 7, 3, .null), none, none, some (.iconst 1, 1, .int 1)],
  [some (.goto 4, 3, .null), none, none, some (.iconst 0, 1, .int 0), some (.ireturn, 1, .null), some (.iload_n 1, 1, .null), some (.bipush 40, 2, .int 40), none],
  [some (.if_icmp .ne 42, 3, .null), none, none, some (.aload_n 0, 1, .null), some (.invokevirtual 168, 3, .null), none, none, some (.ifCond .ne 5, 3, .null)],
  [none, none, some (.iconst 0, 1, .int 0), some (.ireturn, 1, .null), some (.aload_n 0, 1, .null), some (.iconst 0, 1, .int 0), some (.iconst 0, 1, .int 0), some (.invokevirtual 197, 3, .null)],
  [none, none, some (.istore_n 2, 1, .null), some (.aload_n 0, 1, .null), some (.bipush 41, 2, .int 41), none, some (.invokevirtual 174, 3, .null), none],
  [none, some (.ifCond .ne 5, 3, .null), none, none, some (.iconst 0, 1, .int 0), some (.ireturn, 1, .null), some (.aload_n 0, 1, .null), some (.dup, 1, .null)],
  [some (.getfield 141, 3, .null), none, none, some (.iconst 1, 1, .int 1), some (.isub, 1, .null), some (.putfield 141, 3, .null), none, none],
  [some (.iload_n 2, 1, .null), some (.ireturn, 1, .null), some (.aload_n 0, 1, .null), some (.iconst 0, 1, .int 0), some (.iconst 0, 1, .int 0), some (.invokevirtual 201, 3, .null), none, none],
  [some (.ireturn, 1, .null)]]
def m_X12_unit : AmM := (yX12_unit, cX12_unit, 12, 3, (some .boolean), k_X12_unit)
def k_X12_part : List (List (Option AmI)) := [[some (.iload_n 1, 1, .null), some (.ifCond .eq 12, 3, .null), none, none, some (.aload_n 0, 1, .null), some (.iconst 1, 1, .int 1), some (.iload_n 2, 1, .null), some (.invokevirtual 201, 3, .null)],
  [none, none, some (.goto 7, 3, .null), none, none, some (.aload_n 0, 1, .null), some (.invokevirtual 194, 3, .null), none],
  [none, some (.istore_n 3, 1, .null), some (.aload_n 0, 1, .null), some (.getfield 138, 3, .null), none, none, some (.iconst (-1), 1, .int (-1)), some (.if_icmp .ne 46, 3, .null)],
  [none, none, some (.aload_n 0, 1, .null), some (.invokevirtual 148, 3, .null), none, none, some (.bipush 38, 2, .int 38), none],
  [some (.if_icmp .ne 37, 3, .null), none, none, some (.aload_n 0, 1, .null), some (.dup, 1, .null), some (.getfield 129, 3, .null), none, none],
  [some (.iconst 1, 1, .int 1), some (.iadd, 1, .null), some (.putfield 129, 3, .null), none, none, some (.aload_n 0, 1, .null), some (.invokevirtual 194, 3, .null), none],
  [none, some (.istore 4, 2, .null), none, some (.iload_n 3, 1, .null), some (.ifCond .eq 12, 3, .null), none, none, some (.iload 4, 2, .null)],
  [none, some (.ifCond .eq 7, 3, .null), none, none, some (.iconst 1, 1, .int 1), some (.goto 4, 3, .null), none, none],
  [some (.iconst 0, 1, .int 0), some (.istore_n 3, 1, .null), some (.goto (-48), 3, .null), none, none, some (.iload_n 3, 1, .null), some (.ireturn, 1, .null)]]
def m_X12_part : AmM := (yX12_part, cX12_part, 12, 5, (some .boolean), k_X12_part)
def k_X12_condition : List (List (Option AmI)) := [[some (.aload_n 0, 1, .null), some (.iload_n 1, 1, .null), some (.iload_n 2, 1, .null), some (.invokevirtual 204, 3, .null), none, none, some (.istore_n 3, 1, .null), some (.aload_n 0, 1, .null)],
  [some (.getfield 138, 3, .null), none, none, some (.iconst (-1), 1, .int (-1)), some (.if_icmp .ne 48, 3, .null), none, none, some (.aload_n 0, 1, .null)],
  [some (.invokevirtual 148, 3, .null), none, none, some (.bipush 124, 2, .int 124), none, some (.if_icmp .ne 39, 3, .null), none, none],
  [some (.aload_n 0, 1, .null), some (.dup, 1, .null), some (.getfield 129, 3, .null), none, none, some (.iconst 1, 1, .int 1), some (.iadd, 1, .null), some (.putfield 129, 3, .null)],
  [none, none, some (.aload_n 0, 1, .null), some (.iconst 0, 1, .int 0), some (.iconst 0, 1, .int 0), some (.invokevirtual 204, 3, .null), none, none],
  [some (.istore 4, 2, .null), none, some (.iload_n 3, 1, .null), some (.ifCond .ne 8, 3, .null), none, none, some (.iload 4, 2, .null), none],
  [some (.ifCond .eq 7, 3, .null), none, none, some (.iconst 1, 1, .int 1), some (.goto 4, 3, .null), none, none, some (.iconst 0, 1, .int 0)],
  [some (.istore_n 3, 1, .null), some (.goto (-50), 3, .null), none, none, some (.iload_n 3, 1, .null), some (.ireturn, 1, .null)]]
def m_X12_condition : AmM := (yX12_condition, cX12_condition, 12, 5, (some .boolean), k_X12_condition)
def k_X12_clause : List (List (Option AmI)) := [[some (.aload_n 0, 1, .null), some (.invokevirtual 148, 3, .null), none, none, some (.istore_n 1, 1, .null), some (.ldc 26, 2, .retAddr 0), none, some (.iload_n 1, 1, .null)],
  [some (.invokestatic 164, 3, .null), none, none, some (.ifCond .ne 9, 3, .null), none, none, some (.aload_n 0, 1, .null), some (.invokevirtual 144, 3, .null)],
  [none, none, some (.pop, 1, .null), some (.return_, 1, .null), some (.aload_n 0, 1, .null), some (.dup, 1, .null), some (.getfield 129, 3, .null), none],
  [none, some (.iconst 1, 1, .int 1), some (.iadd, 1, .null), some (.putfield 129, 3, .null), none, none, some (.aload_n 0, 1, .null), some (.bipush 58, 2, .int 58)],
  [none, some (.invokevirtual 174, 3, .null), none, none, some (.ifCond .ne 4, 3, .null), none, none, some (.return_, 1, .null)],
  [some (.iconst 1, 1, .int 1), some (.istore_n 2, 1, .null), some (.iconst 0, 1, .int 0), some (.istore_n 3, 1, .null), some (.aload_n 0, 1, .null), some (.invokevirtual 148, 3, .null), none, none],
  [some (.istore 4, 2, .null), none, some (.iload 4, 2, .null), none, some (.bipush 33, 2, .int 33), none, some (.if_icmp .eq 10, 3, .null), none],
  [none, some (.iload 4, 2, .null), none, some (.bipush 40, 2, .int 40), none, some (.if_icmp .ne 28, 3, .null), none, none],
  [some (.aload_n 0, 1, .null), some (.iconst 0, 1, .int 0), some (.iconst 0, 1, .int 0), some (.invokevirtual 197, 3, .null), none, none, some (.istore_n 2, 1, .null), some (.aload_n 0, 1, .null)],
  [some (.bipush 63, 2, .int 63), none, some (.invokevirtual 174, 3, .null), none, none, some (.ifCond .ne 4, 3, .null), none, none],
  [some (.return_, 1, .null), some (.aload_n 0, 1, .null), some (.invokevirtual 171, 3, .null), none, none, some (.istore_n 3, 1, .null), some (.goto 48, 3, .null), none],
  [none, some (.aload_n 0, 1, .null), some (.invokevirtual 171, 3, .null), none, none, some (.istore_n 3, 1, .null), some (.aload_n 0, 1, .null), some (.getfield 138, 3, .null)],
  [none, none, some (.iconst (-1), 1, .int (-1)), some (.if_icmp .ne 35, 3, .null), none, none, some (.aload_n 0, 1, .null), some (.invokevirtual 148, 3, .null)],
  [none, none, some (.invokestatic 191, 3, .null), none, none, some (.ifCond .eq 25, 3, .null), none, none],
  [some (.aload_n 0, 1, .null), some (.iconst 1, 1, .int 1), some (.iload_n 3, 1, .null), some (.invokevirtual 197, 3, .null), none, none, some (.istore_n 2, 1, .null), some (.aload_n 0, 1, .null)],
  [some (.bipush 63, 2, .int 63), none, some (.invokevirtual 174, 3, .null), none, none, some (.ifCond .ne 4, 3, .null), none, none],
  [some (.return_, 1, .null), some (.aload_n 0, 1, .null), some (.invokevirtual 171, 3, .null), none, none, some (.istore_n 3, 1, .null), some (.aload_n 0, 1, .null), some (.getfield 138, 3, .null)],
  [none, none, some (.iconst (-1), 1, .int (-1)), some (.if_icmp .ne 22, 3, .null), none, none, some (.aload_n 0, 1, .null), some (.getfield 207, 3, .null)],
  [none, none, some (.ifCond .ne 15, 3, .null), none, none, some (.iload_n 1, 1, .null), some (.aload_n 0, 1, .null), some (.getfield 211, 3, .null)],
  [none, none, some (.if_icmp .ne 7, 3, .null), none, none, some (.iload_n 2, 1, .null), some (.ifCond .ne 4, 3, .null), none],
  [none, some (.return_, 1, .null), some (.aload_n 0, 1, .null), some (.iconst 1, 1, .int 1), some (.putfield 207, 3, .null), none, none, some (.aload_n 0, 1, .null)],
  [some (.iload_n 3, 1, .null), some (.putfield 214, 3, .null), none, none, some (.return_, 1, .null)]]
def m_X12_clause : AmM := (yX12_clause, cX12_clause, 12, 5, none, k_X12_clause)
def k_X12_opens : List (List (Option AmI)) := [[some (.aload_n 0, 1, .null), some (.aload_n 1, 1, .null), some (.putfield 23, 3, .null), none, none, some (.aload_n 0, 1, .null), some (.iload_n 2, 1, .null), some (.putfield 135, 3, .null)],
  [none, none, some (.aload_n 0, 1, .null), some (.iload_n 3, 1, .null), some (.putfield 132, 3, .null), none, none, some (.aload_n 0, 1, .null)],
  [some (.iconst 0, 1, .int 0), some (.putfield 129, 3, .null), none, none, some (.aload_n 0, 1, .null), some (.iconst (-1), 1, .int (-1)), some (.putfield 138, 3, .null), none],
  [none, some (.return_, 1, .null)]]
def m_X12_opens : AmM := (yX12_opens, cX12_opens, 12, 4, none, k_X12_opens)
def k_X12_goThrough : List (List (Option AmI)) := [[some (.aload_n 0, 1, .null), some (.aload_n 1, 1, .null), some (.iload_n 2, 1, .null), some (.iload_n 3, 1, .null), some (.invokevirtual 217, 3, .null), none, none, some (.aload_n 0, 1, .null)],
  [some (.bipush 121, 2, .int 121), none, some (.putfield 211, 3, .null), none, none, some (.aload_n 0, 1, .null), some (.iconst 0, 1, .int 0), some (.putfield 141, 3, .null)],
  [none, none, some (.aload_n 0, 1, .null), some (.iconst 0, 1, .int 0), some (.putfield 207, 3, .null), none, none, some (.aload_n 0, 1, .null)],
  [some (.iconst 0, 1, .int 0), some (.putfield 214, 3, .null), none, none, some (.aload_n 0, 1, .null), some (.invokevirtual 221, 3, .null), none, none],
  [some (.aload_n 0, 1, .null), some (.getfield 138, 3, .null), none, none, some (.iconst (-1), 1, .int (-1)), some (.if_icmp .ne 29, 3, .null), none, none],
  [some (.aload_n 0, 1, .null), some (.invokevirtual 148, 3, .null), none, none, some (.bipush 59, 2, .int 59), none, some (.if_icmp .ne 20, 3, .null), none],
  [none, some (.aload_n 0, 1, .null), some (.dup, 1, .null), some (.getfield 129, 3, .null), none, none, some (.iconst 1, 1, .int 1), some (.iadd, 1, .null)],
  [some (.putfield 129, 3, .null), none, none, some (.aload_n 0, 1, .null), some (.invokevirtual 221, 3, .null), none, none, some (.goto (-31), 3, .null)],
  [none, none, some (.aload_n 0, 1, .null), some (.getfield 138, 3, .null), none, none, some (.iconst (-1), 1, .int (-1)), some (.if_icmp .ne 16, 3, .null)],
  [none, none, some (.aload_n 0, 1, .null), some (.invokevirtual 148, 3, .null), none, none, some (.iconst (-1), 1, .int (-1)), some (.if_icmp .eq 8, 3, .null)],
  [none, none, some (.aload_n 0, 1, .null), some (.invokevirtual 144, 3, .null), none, none, some (.pop, 1, .null), some (.return_, 1, .null)]]
def m_X12_goThrough : AmM := (yX12_goThrough, cX12_goThrough, 12, 4, none, k_X12_goThrough)
def k_X12_here : List (List (Option AmI)) := [[some (.aload_n 0, 1, .null), some (.getfield 129, 3, .null), none, none, some (.aload_n 0, 1, .null), some (.getfield 132, 3, .null), none, none],
  [some (.if_icmp .ge 24, 3, .null), none, none, some (.aload_n 0, 1, .null), some (.getfield 23, 3, .null), none, none, some (.aload_n 0, 1, .null)],
  [some (.getfield 135, 3, .null), none, none, some (.aload_n 0, 1, .null), some (.getfield 129, 3, .null), none, none, some (.iadd, 1, .null)],
  [some (.baload, 1, .null), some (.sipush 255, 3, .int 255), none, none, some (.iand, 1, .null), some (.goto 4, 3, .null), none, none],
  [some (.iconst (-1), 1, .int (-1)), some (.ireturn, 1, .null)]]
def m_X12_here : AmM := (yX12_here, cX12_here, 12, 1, (some .int), k_X12_here)
