/-! the words and codes of each method, checked -/
theorem wm_X0_init : ∀ w ∈ eWds 0 k_X0_init, w ∈ eGW := e_wm [259, 100, 101, 260, 328, 120, 329, 120, 331, 120, 332, 333, 262, 263, 81, 265, 81, 266, 335, 337, 338, 339, 325, 326, 327, 328, 260, 293, 82, 295, 82, 296, 329] (by decide +kernel)
theorem st_X0_init : k_X0_init.all (eSt cX0_init true RX0 0) = true := by decide +kernel
theorem wm_X0_read : ∀ w ∈ eWds 0 k_X0_read, w ∈ eGW := e_wm [335, 269, 335, 588, 589, 590, 81, 591, 592, 594, 3, 80, 595, 596, 399, 400, 80, 401, 597, 403, 404, 82, 405, 327, 598, 600, 4, 80, 601, 335, 269, 335, 602, 603, 604, 81, 605, 304, 606, 608, 5, 80, 609, 335, 269, 650, 652, 10, 80, 653] (by decide +kernel)
theorem st_X0_read : k_X0_read.all (eSt cX0_read false RX0 1) = true := by decide +kernel
theorem wm_X0_hasRoomForStore : ∀ w ∈ eWds 0 k_X0_hasRoomForStore, w ∈ eGW := e_wm [335, 269, 335, 685, 565, 566, 81, 567, 333] (by decide +kernel)
theorem st_X0_hasRoomForStore : k_X0_hasRoomForStore.all (eSt cX0_hasRoomForStore false RX0 4) = true := by decide +kernel
theorem wm_X0_keepStore : ∀ w ∈ eWds 0 k_X0_keepStore, w ∈ eGW := e_wm [335, 269, 335, 691, 692, 693, 81, 694, 333, 331, 333, 332, 333, 333, 333, 333] (by decide +kernel)
theorem st_X0_keepStore : k_X0_keepStore.all (eSt cX0_keepStore false RX0 1) = true := by decide +kernel
theorem wm_X0_doOldestStore : ∀ w ∈ eWds 0 k_X0_doOldestStore, w ∈ eGW := e_wm [333, 331, 596, 399, 400, 80, 401, 630, 407, 408, 82, 409, 606, 608, 5, 80, 609, 332, 707, 709, 11, 80, 710, 333, 333, 333, 331, 331, 332, 332] (by decide +kernel)
theorem st_X0_doOldestStore : k_X0_doOldestStore.all (eSt cX0_doOldestStore false RX0 4) = true := by decide +kernel
theorem wm_X0_isAtRest : ∀ w ∈ eWds 0 k_X0_isAtRest, w ∈ eGW := e_wm [333, 335, 269] (by decide +kernel)
theorem st_X0_isAtRest : k_X0_isAtRest.all (eSt cX0_isAtRest false RX0 4) = true := by decide +kernel
theorem wm_X0_addAtOnce : ∀ w ∈ eWds 0 k_X0_addAtOnce, w ∈ eGW := e_wm [596, 399, 400, 80, 401, 630, 407, 408, 82, 409, 606, 608, 5, 80, 609, 304, 707, 709, 11, 80, 710] (by decide +kernel)
theorem st_X0_addAtOnce : k_X0_addAtOnce.all (eSt cX0_addAtOnce false RX0 1) = true := by decide +kernel
theorem wm_X0_endTransaction : ∀ w ∈ eWds 0 k_X0_endTransaction, w ∈ eGW := e_wm [335, 272, 327, 335, 757, 758, 759, 81, 760, 761, 763, 12, 80, 764, 596, 399, 400, 80, 401, 335, 588, 589, 590, 81, 591, 335, 588, 589, 590, 81, 591, 707, 709, 11, 80, 710, 327, 335, 757, 758, 759, 81, 760] (by decide +kernel)
theorem st_X0_endTransaction : k_X0_endTransaction.all (eSt cX0_endTransaction false RX0 1) = true := by decide +kernel
theorem wm_X0_askForStoredLines : ∀ w ∈ eWds 0 k_X0_askForStoredLines, w ∈ eGW := e_wm [596, 399, 400, 80, 401, 630, 407, 408, 82, 409, 335, 588, 589, 590, 81, 591, 606, 608, 5, 80, 609] (by decide +kernel)
theorem st_X0_askForStoredLines : k_X0_askForStoredLines.all (eSt cX0_askForStoredLines false RX0 4) = true := by decide +kernel
theorem wm_X0_latestBuffered : ∀ w ∈ eWds 0 k_X0_latestBuffered, w ∈ eGW := e_wm [333, 331, 332] (by decide +kernel)
theorem st_X0_latestBuffered : k_X0_latestBuffered.all (eSt cX0_latestBuffered false RX0 1) = true := by decide +kernel
theorem wm_X0_learnStride : ∀ w ∈ eWds 0 k_X0_learnStride, w ∈ eGW := e_wm [338, 338, 339, 338, 339, 596, 399, 400, 80, 401, 610, 612, 6, 80, 613, 606, 608, 5, 80, 609, 327] (by decide +kernel)
theorem st_X0_learnStride : k_X0_learnStride.all (eSt cX0_learnStride false RX0 0) = true := by decide +kernel
theorem wm_X0_placeOf : ∀ w ∈ eWds 0 k_X0_placeOf, w ∈ eGW := e_wm [328, 299, 328] (by decide +kernel)
theorem st_X0_placeOf : k_X0_placeOf.all (eSt cX0_placeOf false RX0 3) = true := by decide +kernel
theorem wm_X0_emptyPlace : ∀ w ∈ eWds 0 k_X0_emptyPlace, w ∈ eGW := e_wm [328, 614, 615, 616, 82, 617, 328] (by decide +kernel)
theorem st_X0_emptyPlace : k_X0_emptyPlace.all (eSt cX0_emptyPlace false RX0 3) = true := by decide +kernel
theorem wm_X0_use : ∀ w ∈ eWds 0 k_X0_use, w ∈ eGW := e_wm [337, 337, 337, 307] (by decide +kernel)
theorem st_X0_use : k_X0_use.all (eSt cX0_use false RX0 0) = true := by decide +kernel
theorem wm_X0_write : ∀ w ∈ eWds 0 k_X0_write, w ∈ eGW := e_wm [302, 304, 598, 600, 4, 80, 601] (by decide +kernel)
theorem st_X0_write : k_X0_write.all (eSt cX0_write false RX0 0) = true := by decide +kernel
theorem wm_X0_ask : ∀ w ∈ eWds 0 k_X0_ask, w ∈ eGW := e_wm [329, 596, 399, 400, 80, 401, 302, 610, 612, 6, 80, 613, 618, 620, 7, 80, 621, 299, 626, 628, 8, 80, 629, 646, 647, 648, 82, 649, 327, 631, 633, 9, 80, 634] (by decide +kernel)
theorem st_X0_ask : k_X0_ask.all (eSt cX0_ask false RX0 4) = true := by decide +kernel
theorem wm_X0_longestUnused : ∀ w ∈ eWds 0 k_X0_longestUnused, w ∈ eGW := e_wm [328, 597, 403, 404, 82, 405, 335, 299, 622, 623, 624, 81, 625, 307, 307] (by decide +kernel)
theorem st_X0_longestUnused : k_X0_longestUnused.all (eSt cX0_longestUnused false RX0 3) = true := by decide +kernel
theorem wm_X0_vacate : ∀ w ∈ eWds 0 k_X0_vacate, w ∈ eGW := e_wm [630, 407, 408, 82, 409, 329, 299, 304, 327, 299, 304, 631, 633, 9, 80, 634, 642, 643, 644, 82, 645] (by decide +kernel)
theorem st_X0_vacate : k_X0_vacate.all (eSt cX0_vacate false RX0 0) = true := by decide +kernel
theorem wm_X0_send : ∀ w ∈ eWds 0 k_X0_send, w ∈ eGW := e_wm [326, 325, 635, 636, 89, 637, 638, 639, 640, 74, 641] (by decide +kernel)
theorem st_X0_send : k_X0_send.all (eSt cX0_send false RX0 0) = true := by decide +kernel
theorem wm_X0_receive : ∀ w ∈ eWds 0 k_X0_receive, w ∈ eGW := e_wm [789, 790, 89, 791, 792, 793, 89, 794, 335, 795, 796, 797, 81, 798, 800, 802, 14, 80, 803, 335, 795, 796, 797, 81, 798, 804, 806, 15, 80, 807, 329, 812, 813, 89, 814, 815, 817, 16, 80, 818] (by decide +kernel)
theorem st_X0_receive : k_X0_receive.all (eSt cX0_receive false RX0 0) = true := by decide +kernel
theorem wm_X0_receiveKill : ∀ w ∈ eWds 0 k_X0_receiveKill, w ∈ eGW := e_wm [596, 399, 400, 80, 401, 302, 642, 643, 644, 82, 645, 302, 309, 631, 633, 9, 80, 634] (by decide +kernel)
theorem st_X0_receiveKill : k_X0_receiveKill.all (eSt cX0_receiveKill false RX0 0) = true := by decide +kernel
theorem wm_X0_giveUp : ∀ w ∈ eWds 0 k_X0_giveUp, w ∈ eGW := e_wm [596, 399, 400, 80, 401, 808, 809, 810, 82, 811, 311, 630, 407, 408, 82, 409, 304, 631, 633, 9, 80, 634, 302, 642, 643, 644, 82, 645, 329, 329, 631, 633, 9, 80, 634] (by decide +kernel)
theorem st_X0_giveUp : k_X0_giveUp.all (eSt cX0_giveUp false RX0 0) = true := by decide +kernel
theorem wm_X0_receiveData : ∀ w ∈ eWds 0 k_X0_receiveData, w ∈ eGW := e_wm [596, 399, 400, 80, 401, 808, 809, 810, 82, 811, 309, 642, 643, 644, 82, 645, 819, 820, 821, 82, 822, 598, 600, 4, 80, 601, 311, 311, 804, 806, 15, 80, 807] (by decide +kernel)
theorem st_X0_receiveData : k_X0_receiveData.all (eSt cX0_receiveData false RX0 0) = true := by decide +kernel
theorem wm_X1_init : ∀ w ∈ eWds 1 k_X1_init, w ∈ eGW := e_wm [126, 100, 101, 127, 171, 173, 174, 171, 127, 129, 76, 131, 76, 132] (by decide +kernel)
theorem st_X1_init : k_X1_init.all (eSt cX1_init true RX1 0) = true := by decide +kernel
theorem wm_X1_receiveRequest : ∀ w ∈ eWds 1 k_X1_receiveRequest, w ∈ eGW := e_wm [171, 827, 793, 89, 794, 144, 828, 829, 830, 76, 831, 832, 834, 17, 75, 835] (by decide +kernel)
theorem st_X1_receiveRequest : k_X1_receiveRequest.all (eSt cX1_receiveRequest false RX1 0) = true := by decide +kernel
theorem wm_X1_receiveAnswer : ∀ w ∈ eWds 1 k_X1_receiveAnswer, w ∈ eGW := e_wm [171, 827, 793, 89, 794, 144, 884, 813, 89, 814, 884, 813, 89, 814, 135, 149, 149, 149, 889, 891, 23, 75, 892, 152, 144, 897, 898, 899, 76, 900, 832, 834, 17, 75, 835] (by decide +kernel)
theorem st_X1_receiveAnswer : k_X1_receiveAnswer.all (eSt cX1_receiveAnswer false RX1 0) = true := by decide +kernel
theorem wm_X1_serve : ∀ w ∈ eWds 1 k_X1_serve, w ∈ eGW := e_wm [836, 790, 89, 791, 837, 839, 18, 75, 840, 872, 874, 21, 75, 875, 880, 882, 22, 75, 883] (by decide +kernel)
theorem st_X1_serve : k_X1_serve.all (eSt cX1_serve false RX1 0) = true := by decide +kernel
theorem wm_X1_serveRead : ∀ w ∈ eWds 1 k_X1_serveRead, w ∈ eGW := e_wm [841, 842, 89, 843, 844, 845, 846, 76, 847, 138, 848, 850, 19, 75, 851, 854, 855, 856, 76, 857, 141, 138, 135, 858, 860, 20, 75, 861, 862, 863, 864, 76, 865, 174, 135, 858, 860, 20, 75, 861] (by decide +kernel)
theorem st_X1_serveRead : k_X1_serveRead.all (eSt cX1_serveRead false RX1 0) = true := by decide +kernel
theorem wm_X1_serveWrite : ∀ w ∈ eWds 1 k_X1_serveWrite, w ∈ eGW := e_wm [841, 842, 89, 843, 844, 845, 846, 76, 847, 138, 848, 850, 19, 75, 851, 141, 848, 850, 19, 75, 851, 854, 855, 856, 76, 857, 876, 877, 878, 76, 879, 135, 858, 860, 20, 75, 861] (by decide +kernel)
theorem st_X1_serveWrite : k_X1_serveWrite.all (eSt cX1_serveWrite false RX1 0) = true := by decide +kernel
theorem wm_X1_servePut : ∀ w ∈ eWds 1 k_X1_servePut, w ∈ eGW := e_wm [138, 841, 842, 89, 843, 884, 813, 89, 814, 135, 138, 858, 860, 20, 75, 861] (by decide +kernel)
theorem st_X1_servePut : k_X1_servePut.all (eSt cX1_servePut false RX1 0) = true := by decide +kernel
theorem wm_X1_finish : ∀ w ∈ eWds 1 k_X1_finish, w ∈ eGW := e_wm [144, 147, 836, 790, 89, 791, 841, 842, 89, 843, 876, 877, 878, 76, 879, 135, 858, 860, 20, 75, 861, 841, 842, 89, 843, 893, 894, 895, 76, 896, 135, 858, 860, 20, 75, 861] (by decide +kernel)
theorem st_X1_finish : k_X1_finish.all (eSt cX1_finish false RX1 0) = true := by decide +kernel
theorem wm_X1_forward : ∀ w ∈ eWds 1 k_X1_forward, w ∈ eGW := e_wm [174, 173, 827, 793, 89, 794, 852, 636, 89, 637, 853, 639, 640, 74, 641] (by decide +kernel)
theorem st_X1_forward : k_X1_forward.all (eSt cX1_forward false RX1 0) = true := by decide +kernel
theorem wm_X1_answer : ∀ w ∈ eWds 1 k_X1_answer, w ∈ eGW := e_wm [173, 841, 842, 89, 843, 827, 793, 89, 794, 852, 636, 89, 637, 853, 639, 640, 74, 641] (by decide +kernel)
theorem st_X1_answer : k_X1_answer.all (eSt cX1_answer false RX1 0) = true := by decide +kernel
theorem wm_X2_init : ∀ w ∈ eWds 2 k_X2_init, w ∈ eGW := e_wm [133, 100, 101, 134, 137, 140, 143, 146, 148, 120, 150, 151] (by decide +kernel)
theorem st_X2_init : k_X2_init.all (eSt cX2_init true RX2 0) = true := by decide +kernel
theorem wm_X2_hasOtherOwner : ∀ w ∈ eWds 2 k_X2_hasOtherOwner, w ∈ eGW := e_wm [137, 137] (by decide +kernel)
theorem st_X2_hasOtherOwner : k_X2_hasOtherOwner.all (eSt cX2_hasOtherOwner false RX2 4) = true := by decide +kernel
theorem wm_X2_addSharer : ∀ w ∈ eWds 2 k_X2_addSharer, w ∈ eGW := e_wm [140, 140, 866, 867, 91, 868, 140] (by decide +kernel)
theorem st_X2_addSharer : k_X2_addSharer.all (eSt cX2_addSharer false RX2 4) = true := by decide +kernel
theorem wm_X2_belongTo : ∀ w ∈ eWds 2 k_X2_belongTo, w ∈ eGW := e_wm [137, 140] (by decide +kernel)
theorem st_X2_belongTo : k_X2_belongTo.all (eSt cX2_belongTo false RX2 0) = true := by decide +kernel
theorem wm_X2_becomeSharedWith : ∀ w ∈ eWds 2 k_X2_becomeSharedWith, w ∈ eGW := e_wm [140, 137, 140, 137, 140, 137] (by decide +kernel)
theorem st_X2_becomeSharedWith : k_X2_becomeSharedWith.all (eSt cX2_becomeSharedWith false RX2 0) = true := by decide +kernel
theorem wm_X2_putInRow : ∀ w ∈ eWds 2 k_X2_putInRow, w ∈ eGW := e_wm [151, 150, 150, 151, 151, 151] (by decide +kernel)
theorem st_X2_putInRow : k_X2_putInRow.all (eSt cX2_putInRow false RX2 0) = true := by decide +kernel
theorem wm_X2_takeFromRow : ∀ w ∈ eWds 2 k_X2_takeFromRow, w ∈ eGW := e_wm [150, 151, 151, 151, 150, 150, 150] (by decide +kernel)
theorem st_X2_takeFromRow : k_X2_takeFromRow.all (eSt cX2_takeFromRow false RX2 1) = true := by decide +kernel
theorem wm_X2_waitForAnswers : ∀ w ∈ eWds 2 k_X2_waitForAnswers, w ∈ eGW := e_wm [143, 146, 148] (by decide +kernel)
theorem st_X2_waitForAnswers : k_X2_waitForAnswers.all (eSt cX2_waitForAnswers false RX2 0) = true := by decide +kernel
theorem wm_X3_init : ∀ w ∈ eWds 3 k_X3_init, w ∈ eGW := e_wm [107, 100, 101, 108, 120, 110, 120, 111, 120, 112] (by decide +kernel)
theorem st_X3_init : k_X3_init.all (eSt cX3_init true RX3 0) = true := by decide +kernel
theorem wm_X3_size : ∀ w ∈ eWds 3 k_X3_size, w ∈ eGW := e_wm [112] (by decide +kernel)
theorem st_X3_size : k_X3_size.all (eSt cX3_size false RX3 1) = true := by decide +kernel
theorem wm_X3_send : ∀ w ∈ eWds 3 k_X3_send, w ∈ eGW := e_wm [112, 110, 111, 112, 112] (by decide +kernel)
theorem st_X3_send : k_X3_send.all (eSt cX3_send false RX3 0) = true := by decide +kernel
theorem wm_X3_take : ∀ w ∈ eWds 3 k_X3_take, w ∈ eGW := e_wm [112, 110, 111, 111, 111, 112] (by decide +kernel)
theorem st_X3_take : k_X3_take.all (eSt cX3_take false RX3 1) = true := by decide +kernel
theorem wm_X3_valueOnTheWayHome : ∀ w ∈ eWds 3 k_X3_valueOnTheWayHome, w ∈ eGW := e_wm [112, 110, 111, 969, 793, 89, 794, 970, 813, 89, 814, 970, 813, 89, 814] (by decide +kernel)
theorem st_X3_valueOnTheWayHome : k_X3_valueOnTheWayHome.all (eSt cX3_valueOnTheWayHome false RX3 1) = true := by decide +kernel
theorem wm_X4_of : ∀ w ∈ eWds 4 k_X4_of, w ∈ eGW := e_wm [] (by decide +kernel)
theorem st_X4_of : k_X4_of.all (eSt cX4_of false RX4 1) = true := by decide +kernel
theorem wm_X4_kindOf : ∀ w ∈ eWds 4 k_X4_kindOf, w ∈ eGW := e_wm [] (by decide +kernel)
theorem st_X4_kindOf : k_X4_kindOf.all (eSt cX4_kindOf false RX4 1) = true := by decide +kernel
theorem wm_X4_lineOf : ∀ w ∈ eWds 4 k_X4_lineOf, w ∈ eGW := e_wm [] (by decide +kernel)
theorem st_X4_lineOf : k_X4_lineOf.all (eSt cX4_lineOf false RX4 1) = true := by decide +kernel
theorem wm_X4_coreOf : ∀ w ∈ eWds 4 k_X4_coreOf, w ∈ eGW := e_wm [] (by decide +kernel)
theorem st_X4_coreOf : k_X4_coreOf.all (eSt cX4_coreOf false RX4 1) = true := by decide +kernel
theorem wm_X4_valueOf : ∀ w ∈ eWds 4 k_X4_valueOf, w ∈ eGW := e_wm [] (by decide +kernel)
theorem st_X4_valueOf : k_X4_valueOf.all (eSt cX4_valueOf false RX4 1) = true := by decide +kernel
theorem wm_X5_init : ∀ w ∈ eWds 5 k_X5_init, w ∈ eGW := e_wm [238, 100, 101, 120, 241, 254, 242, 120, 243, 239, 214, 78, 216, 78, 217, 244] (by decide +kernel)
theorem st_X5_init : k_X5_init.all (eSt cX5_init true RX5 0) = true := by decide +kernel
theorem wm_X5_countOutcomes : ∀ w ∈ eWds 5 k_X5_countOutcomes, w ∈ eGW := e_wm [244, 1027, 416, 417, 78, 418, 1028, 1030, 25, 79, 1031, 1033, 1035, 26, 79, 1036, 244, 1040, 1042, 27, 79, 1043, 1049, 471, 472, 78, 473, 1050, 1052, 29, 79, 1053, 244, 222] (by decide +kernel)
theorem st_X5_countOutcomes : k_X5_countOutcomes.all (eSt cX5_countOutcomes false RX5 1) = true := by decide +kernel
theorem wm_X5_firstOrder : ∀ w ∈ eWds 5 k_X5_firstOrder, w ∈ eGW := e_wm [1032, 999, 1000, 77, 1001, 241] (by decide +kernel)
theorem st_X5_firstOrder : k_X5_firstOrder.all (eSt cX5_firstOrder false RX5 1) = true := by decide +kernel
theorem wm_X5_nextOrder : ∀ w ∈ eWds 5 k_X5_nextOrder, w ∈ eGW := e_wm [241, 241, 241, 241, 1054, 1056, 30, 79, 1057, 1054, 1056, 30, 79, 1057] (by decide +kernel)
theorem st_X5_nextOrder : k_X5_nextOrder.all (eSt cX5_nextOrder false RX5 4) = true := by decide +kernel
theorem wm_X5_swap : ∀ w ∈ eWds 5 k_X5_swap, w ∈ eGW := e_wm [241, 241, 241, 241] (by decide +kernel)
theorem st_X5_swap : k_X5_swap.all (eSt cX5_swap false RX5 0) = true := by decide +kernel
theorem wm_X5_isAllowed : ∀ w ∈ eWds 5 k_X5_isAllowed, w ∈ eGW := e_wm [241, 241, 241, 241, 241, 241, 1037, 1038, 79, 1039] (by decide +kernel)
theorem st_X5_isAllowed : k_X5_isAllowed.all (eSt cX5_isAllowed false RX5 4) = true := by decide +kernel
theorem wm_X5_mayOvertake : ∀ w ∈ eWds 5 k_X5_mayOvertake, w ∈ eGW := e_wm [192, 192] (by decide +kernel)
theorem st_X5_mayOvertake : k_X5_mayOvertake.all (eSt cX5_mayOvertake false RX5 4) = true := by decide +kernel
theorem wm_X5_outcomeOf : ∀ w ∈ eWds 5 k_X5_outcomeOf, w ∈ eGW := e_wm [243, 242, 241, 1044, 1046, 28, 79, 1047, 1048, 463, 464, 77, 465, 242, 192, 243, 195, 198, 192, 243, 195] (by decide +kernel)
theorem st_X5_outcomeOf : k_X5_outcomeOf.all (eSt cX5_outcomeOf false RX5 1) = true := by decide +kernel
theorem wm_X5_seenBy : ∀ w ∈ eWds 5 k_X5_seenBy, w ∈ eGW := e_wm [195, 192, 195, 242, 198, 243] (by decide +kernel)
theorem st_X5_seenBy : k_X5_seenBy.all (eSt cX5_seenBy false RX5 1) = true := by decide +kernel
theorem wm_X6_init : ∀ w ∈ eWds 6 k_X6_init, w ∈ eGW := e_wm [218, 100, 101, 120, 219, 221, 224] (by decide +kernel)
theorem st_X6_init : k_X6_init.all (eSt cX6_init true RX6 0) = true := by decide +kernel
theorem wm_X6_forget : ∀ w ∈ eWds 6 k_X6_forget, w ∈ eGW := e_wm [221, 224] (by decide +kernel)
theorem st_X6_forget : k_X6_forget.all (eSt cX6_forget false RX6 0) = true := by decide +kernel
theorem wm_X6_include : ∀ w ∈ eWds 6 k_X6_include, w ∈ eGW := e_wm [221, 219, 221, 219, 221, 221, 219, 219, 219, 221, 221] (by decide +kernel)
theorem st_X6_include : k_X6_include.all (eSt cX6_include false RX6 0) = true := by decide +kernel
theorem wm_X6_isSameAs : ∀ w ∈ eWds 6 k_X6_isSameAs, w ∈ eGW := e_wm [221, 221, 221, 219, 219] (by decide +kernel)
theorem st_X6_isSameAs : k_X6_isSameAs.all (eSt cX6_isSameAs false RX6 4) = true := by decide +kernel
theorem wm_X7_init : ∀ w ∈ eWds 7 k_X7_init, w ∈ eGW := e_wm [297, 100, 101, 298, 300, 303, 306, 308, 310] (by decide +kernel)
theorem st_X7_init : k_X7_init.all (eSt cX7_init true RX7 0) = true := by decide +kernel
theorem wm_X7_isEmpty : ∀ w ∈ eWds 7 k_X7_isEmpty, w ∈ eGW := e_wm [300] (by decide +kernel)
theorem st_X7_isEmpty : k_X7_isEmpty.all (eSt cX7_isEmpty false RX7 4) = true := by decide +kernel
theorem wm_X7_waits : ∀ w ∈ eWds 7 k_X7_waits, w ∈ eGW := e_wm [300, 300] (by decide +kernel)
theorem st_X7_waits : k_X7_waits.all (eSt cX7_waits false RX7 4) = true := by decide +kernel
theorem wm_X7_hasValue : ∀ w ∈ eWds 7 k_X7_hasValue, w ∈ eGW := e_wm [300, 406, 407, 408, 82, 409] (by decide +kernel)
theorem st_X7_hasValue : k_X7_hasValue.all (eSt cX7_hasValue false RX7 4) = true := by decide +kernel
theorem wm_X7_mayBeWritten : ∀ w ∈ eWds 7 k_X7_mayBeWritten, w ∈ eGW := e_wm [300, 300] (by decide +kernel)
theorem st_X7_mayBeWritten : k_X7_mayBeWritten.all (eSt cX7_mayBeWritten false RX7 4) = true := by decide +kernel
theorem wm_X7_becomeEmpty : ∀ w ∈ eWds 7 k_X7_becomeEmpty, w ∈ eGW := e_wm [298, 300] (by decide +kernel)
theorem st_X7_becomeEmpty : k_X7_becomeEmpty.all (eSt cX7_becomeEmpty false RX7 0) = true := by decide +kernel
theorem wm_X7_waitFor : ∀ w ∈ eWds 7 k_X7_waitFor, w ∈ eGW := e_wm [298, 300, 308, 310] (by decide +kernel)
theorem st_X7_waitFor : k_X7_waitFor.all (eSt cX7_waitFor false RX7 0) = true := by decide +kernel
theorem wm_X7_fill : ∀ w ∈ eWds 7 k_X7_fill, w ∈ eGW := e_wm [300, 303] (by decide +kernel)
theorem st_X7_fill : k_X7_fill.all (eSt cX7_fill false RX7 0) = true := by decide +kernel
theorem wm_X8_init : ∀ w ∈ eWds 8 k_X8_init, w ∈ eGW := e_wm [189, 100, 101, 120, 190, 120, 193, 120, 196, 120, 199, 120, 200] (by decide +kernel)
theorem st_X8_init : k_X8_init.all (eSt cX8_init true RX8 0) = true := by decide +kernel
theorem wm_X8_total : ∀ w ∈ eWds 8 k_X8_total, w ∈ eGW := e_wm [200] (by decide +kernel)
theorem st_X8_total : k_X8_total.all (eSt cX8_total false RX8 1) = true := by decide +kernel
theorem wm_X8_hasRoom : ∀ w ∈ eWds 8 k_X8_hasRoom, w ∈ eGW := e_wm [200, 423, 424, 425, 77, 426] (by decide +kernel)
theorem st_X8_hasRoom : k_X8_hasRoom.all (eSt cX8_hasRoom false RX8 4) = true := by decide +kernel
theorem wm_X8_append : ∀ w ∈ eWds 8 k_X8_append, w ∈ eGW := e_wm [200, 200, 190, 193, 196, 200, 994, 996, 24, 77, 997, 200] (by decide +kernel)
theorem st_X8_append : k_X8_append.all (eSt cX8_append false RX8 1) = true := by decide +kernel
theorem wm_X8_empty : ∀ w ∈ eWds 8 k_X8_empty, w ∈ eGW := e_wm [423, 424, 425, 77, 426, 200] (by decide +kernel)
theorem st_X8_empty : k_X8_empty.all (eSt cX8_empty false RX8 1) = true := by decide +kernel
theorem wm_X8_isUsed : ∀ w ∈ eWds 8 k_X8_isUsed, w ∈ eGW := e_wm [200] (by decide +kernel)
theorem st_X8_isUsed : k_X8_isUsed.all (eSt cX8_isUsed false RX8 4) = true := by decide +kernel
theorem wm_X8_weigh : ∀ w ∈ eWds 8 k_X8_weigh, w ∈ eGW := e_wm [998, 999, 1000, 77, 1001, 190, 190, 199] (by decide +kernel)
theorem st_X8_weigh : k_X8_weigh.all (eSt cX8_weigh false RX8 0) = true := by decide +kernel
theorem wm_X8_told : ∀ w ∈ eWds 8 k_X8_told, w ∈ eGW := e_wm [199, 466, 457, 93, 458] (by decide +kernel)
theorem st_X8_told : k_X8_told.all (eSt cX8_told false RX8 1) = true := by decide +kernel
theorem wm_X9_part : ∀ w ∈ eWds 9 k_X9_part, w ∈ eGW := e_wm [] (by decide +kernel)
theorem st_X9_part : k_X9_part.all (eSt cX9_part false RX9 1) = true := by decide +kernel
theorem wm_X9_with : ∀ w ∈ eWds 9 k_X9_with, w ∈ eGW := e_wm [450, 451, 450] (by decide +kernel)
theorem st_X9_with : k_X9_with.all (eSt cX9_with false RX9 2) = true := by decide +kernel
theorem wm_X9_explore : ∀ w ∈ eWds 9 k_X9_explore, w ∈ eGW := e_wm [438, 439, 92, 440, 444, 445, 92, 446, 447, 448, 92, 449, 452, 436, 92, 437, 453, 454, 92, 455, 194, 197, 447, 448, 92, 449, 447, 448, 92, 449, 452, 436, 92, 437, 441, 442, 92, 443, 191, 459, 460, 92, 461, 462, 463, 464, 77, 465, 467, 468, 92, 469, 452, 436, 92, 437, 470, 471, 472, 78, 473] (by decide +kernel)
theorem st_X9_explore : k_X9_explore.all (eSt cX9_explore false RX9 0) = true := by decide +kernel
theorem wm_X9_nextSlot : ∀ w ∈ eWds 9 k_X9_nextSlot, w ∈ eGW := e_wm [444, 445, 92, 446, 201] (by decide +kernel)
theorem st_X9_nextSlot : k_X9_nextSlot.all (eSt cX9_nextSlot false RX9 1) = true := by decide +kernel
theorem wm_X9_threadAtStore : ∀ w ∈ eWds 9 k_X9_threadAtStore, w ∈ eGW := e_wm [441, 442, 92, 443, 191] (by decide +kernel)
theorem st_X9_threadAtStore : k_X9_threadAtStore.all (eSt cX9_threadAtStore false RX9 1) = true := by decide +kernel
theorem wm_X9_oldestBuffered : ∀ w ∈ eWds 9 k_X9_oldestBuffered, w ∈ eGW := e_wm [444, 445, 92, 446, 456, 457, 93, 458, 444, 445, 92, 446, 191] (by decide +kernel)
theorem st_X9_oldestBuffered : k_X9_oldestBuffered.all (eSt cX9_oldestBuffered false RX9 1) = true := by decide +kernel
theorem wm_X9_resultOf : ∀ w ∈ eWds 9 k_X9_resultOf, w ∈ eGW := e_wm [194, 444, 445, 92, 446, 191, 194, 197, 444, 445, 92, 446] (by decide +kernel)
theorem st_X9_resultOf : k_X9_resultOf.all (eSt cX9_resultOf false RX9 1) = true := by decide +kernel
theorem wm_X9_after : ∀ w ∈ eWds 9 k_X9_after, w ∈ eGW := e_wm [194, 447, 448, 92, 449, 191, 197, 447, 448, 92, 449, 444, 445, 92, 446, 447, 448, 92, 449] (by decide +kernel)
theorem st_X9_after : k_X9_after.all (eSt cX9_after false RX9 2) = true := by decide +kernel
theorem wm_X10_init : ∀ w ∈ eWds 10 k_X10_init, w ∈ eGW := e_wm [267, 100, 101, 268, 271, 273, 274, 275, 254, 276, 120, 277] (by decide +kernel)
theorem st_X10_init : k_X10_init.all (eSt cX10_init true RX10 0) = true := by decide +kernel
theorem wm_X10_open : ∀ w ∈ eWds 10 k_X10_open, w ∈ eGW := e_wm [268, 271, 274, 275, 276, 277, 273] (by decide +kernel)
theorem st_X10_open : k_X10_open.all (eSt cX10_open false RX10 1) = true := by decide +kernel
theorem wm_X10_close : ∀ w ∈ eWds 10 k_X10_close, w ∈ eGW := e_wm [268, 271, 273, 273] (by decide +kernel)
theorem st_X10_close : k_X10_close.all (eSt cX10_close false RX10 0) = true := by decide +kernel
theorem wm_X10_has : ∀ w ∈ eWds 10 k_X10_has, w ∈ eGW := e_wm [268, 276] (by decide +kernel)
theorem st_X10_has : k_X10_has.all (eSt cX10_has false RX10 4) = true := by decide +kernel
theorem wm_X10_admits : ∀ w ∈ eWds 10 k_X10_admits, w ∈ eGW := e_wm [268, 276, 274] (by decide +kernel)
theorem st_X10_admits : k_X10_admits.all (eSt cX10_admits false RX10 4) = true := by decide +kernel
theorem wm_X10_include : ∀ w ∈ eWds 10 k_X10_include, w ∈ eGW := e_wm [276, 276, 274, 274] (by decide +kernel)
theorem st_X10_include : k_X10_include.all (eSt cX10_include false RX10 0) = true := by decide +kernel
theorem wm_X10_keep : ∀ w ∈ eWds 10 k_X10_keep, w ∈ eGW := e_wm [695, 603, 604, 81, 605, 277, 275, 275, 277, 275] (by decide +kernel)
theorem st_X10_keep : k_X10_keep.all (eSt cX10_keep false RX10 1) = true := by decide +kernel
theorem wm_X10_storedTo : ∀ w ∈ eWds 10 k_X10_storedTo, w ∈ eGW := e_wm [268, 277] (by decide +kernel)
theorem st_X10_storedTo : k_X10_storedTo.all (eSt cX10_storedTo false RX10 1) = true := by decide +kernel
theorem wm_X10_meet : ∀ w ∈ eWds 10 k_X10_meet, w ∈ eGW := e_wm [799, 623, 624, 81, 625, 277, 271] (by decide +kernel)
theorem st_X10_meet : k_X10_meet.all (eSt cX10_meet false RX10 0) = true := by decide +kernel
theorem wm_X11_init : ∀ w ∈ eWds 11 k_X11_init, w ∈ eGW := e_wm [99, 100, 101, 120, 365, 102, 103, 74, 105, 74, 106, 366, 121, 122, 75, 366, 365, 123, 124, 75, 125, 367, 182, 368, 184, 185, 77, 187, 77, 188, 369, 213, 214, 78, 216, 78, 217, 370, 213, 214, 78, 216, 78, 217, 371, 233, 234, 79, 236, 79, 237, 372, 368, 182, 255, 80, 366, 365, 256, 257, 80, 258] (by decide +kernel)
theorem st_X11_init : k_X11_init.all (eSt cX11_init true RX11 0) = true := by decide +kernel
theorem wm_X11_load : ∀ w ∈ eWds 11 k_X11_load, w ∈ eGW := e_wm [487, 488, 73, 489, 561, 562, 73, 563, 368, 336, 564, 565, 566, 81, 567, 568, 88, 368, 584, 585, 586, 80, 587] (by decide +kernel)
theorem st_X11_load : k_X11_load.all (eSt cX11_load false RX11 1) = true := by decide +kernel
theorem wm_X11_store : ∀ w ∈ eWds 11 k_X11_store, w ∈ eGW := e_wm [487, 488, 73, 489, 561, 562, 73, 563, 662, 663, 73, 664, 368, 681, 682, 683, 80, 684, 568, 88, 368, 687, 688, 689, 80, 690] (by decide +kernel)
theorem st_X11_store : k_X11_store.all (eSt cX11_store false RX11 1) = true := by decide +kernel
theorem wm_X11_drain : ∀ w ∈ eWds 11 k_X11_drain, w ∈ eGW := e_wm [487, 488, 73, 489, 368, 703, 704, 705, 80, 706] (by decide +kernel)
theorem st_X11_drain : k_X11_drain.all (eSt cX11_drain false RX11 4) = true := by decide +kernel
theorem wm_X11_fence : ∀ w ∈ eWds 11 k_X11_fence, w ∈ eGW := e_wm [487, 488, 73, 489, 368, 334] (by decide +kernel)
theorem st_X11_fence : k_X11_fence.all (eSt cX11_fence false RX11 4) = true := by decide +kernel
theorem wm_X11_add : ∀ w ∈ eWds 11 k_X11_add, w ∈ eGW := e_wm [487, 488, 73, 489, 561, 562, 73, 563, 662, 663, 73, 664, 368, 725, 726, 727, 80, 728, 568, 88, 368, 730, 731, 732, 80, 733] (by decide +kernel)
theorem st_X11_add : k_X11_add.all (eSt cX11_add false RX11 1) = true := by decide +kernel
theorem wm_X11_begin : ∀ w ∈ eWds 11 k_X11_begin, w ∈ eGW := e_wm [487, 488, 73, 489, 368, 725, 726, 727, 80, 728, 568, 88, 368, 336, 741, 742, 743, 81, 744] (by decide +kernel)
theorem st_X11_begin : k_X11_begin.all (eSt cX11_begin false RX11 1) = true := by decide +kernel
theorem wm_X11_end : ∀ w ∈ eWds 11 k_X11_end, w ∈ eGW := e_wm [487, 488, 73, 489, 368, 336, 270, 568, 88, 368, 753, 754, 755, 80, 756] (by decide +kernel)
theorem st_X11_end : k_X11_end.all (eSt cX11_end false RX11 1) = true := by decide +kernel
theorem wm_X11_deliver : ∀ w ∈ eWds 11 k_X11_deliver, w ∈ eGW := e_wm [490, 491, 73, 492, 662, 663, 73, 664, 366, 772, 773, 774, 74, 775, 568, 88, 777, 779, 13, 73, 780] (by decide +kernel)
theorem st_X11_deliver : k_X11_deliver.all (eSt cX11_deliver false RX11 1) = true := by decide +kernel
theorem wm_X11_pump : ∀ w ∈ eWds 11 k_X11_pump, w ∈ eGW := e_wm [662, 663, 73, 664, 366, 772, 773, 774, 74, 775, 777, 779, 13, 73, 780] (by decide +kernel)
theorem st_X11_pump : k_X11_pump.all (eSt cX11_pump false RX11 1) = true := by decide +kernel
theorem wm_X11_queued : ∀ w ∈ eWds 11 k_X11_queued, w ∈ eGW := e_wm [490, 491, 73, 492, 662, 663, 73, 664, 366, 772, 773, 774, 74, 775] (by decide +kernel)
theorem st_X11_queued : k_X11_queued.all (eSt cX11_queued false RX11 1) = true := by decide +kernel
theorem wm_X11_stateOf : ∀ w ∈ eWds 11 k_X11_stateOf, w ∈ eGW := e_wm [487, 488, 73, 489, 561, 562, 73, 563, 368, 398, 399, 400, 80, 401, 301, 368, 330] (by decide +kernel)
theorem st_X11_stateOf : k_X11_stateOf.all (eSt cX11_stateOf false RX11 1) = true := by decide +kernel
theorem wm_X11_valueIn : ∀ w ∈ eWds 11 k_X11_valueIn, w ∈ eGW := e_wm [487, 488, 73, 489, 561, 562, 73, 563, 368, 398, 399, 400, 80, 401, 402, 403, 404, 82, 405, 305] (by decide +kernel)
theorem st_X11_valueIn : k_X11_valueIn.all (eSt cX11_valueIn false RX11 1) = true := by decide +kernel
theorem wm_X11_home : ∀ w ∈ eWds 11 k_X11_home, w ∈ eGW := e_wm [561, 562, 73, 563, 367, 172, 136] (by decide +kernel)
theorem st_X11_home : k_X11_home.all (eSt cX11_home false RX11 1) = true := by decide +kernel
theorem wm_X11_owner : ∀ w ∈ eWds 11 k_X11_owner, w ∈ eGW := e_wm [561, 562, 73, 563, 367, 172, 139] (by decide +kernel)
theorem st_X11_owner : k_X11_owner.all (eSt cX11_owner false RX11 1) = true := by decide +kernel
theorem wm_X11_sharers : ∀ w ∈ eWds 11 k_X11_sharers, w ∈ eGW := e_wm [561, 562, 73, 563, 367, 172, 142] (by decide +kernel)
theorem st_X11_sharers : k_X11_sharers.all (eSt cX11_sharers false RX11 1) = true := by decide +kernel
theorem wm_X11_waiting : ∀ w ∈ eWds 11 k_X11_waiting, w ∈ eGW := e_wm [561, 562, 73, 563, 367, 172, 145, 153, 153] (by decide +kernel)
theorem st_X11_waiting : k_X11_waiting.all (eSt cX11_waiting false RX11 1) = true := by decide +kernel
theorem wm_X11_truth : ∀ w ∈ eWds 11 k_X11_truth, w ∈ eGW := e_wm [561, 562, 73, 563, 367, 172, 136, 367, 172, 139, 368, 398, 399, 400, 80, 401, 410, 407, 408, 82, 409, 305, 368, 330, 368, 330, 366, 965, 966, 967, 74, 968] (by decide +kernel)
theorem st_X11_truth : k_X11_truth.all (eSt cX11_truth false RX11 1) = true := by decide +kernel
