set_option maxRecDepth 20000 in
theorem gL_law_X9_distance : GoodIn wsL_law (wsV RL 103 RX9 yX9_distance wsX9_distance) := goodIn_app (goodIn_of _ (by decide +kernel)) ggL_law_X9_distance
set_option maxRecDepth 20000 in
theorem ggL_law_X8_least : GoodIn wsL_law wsX8_least := goodIn_r _ [571, 28, 572, 573, 574, 575, 27, 576, 577, 560, 578, 579, 580, 581, 582, 583, 584, 585, 586, 587, 588, 589, 590, 591, 592, 593, 594, 66, 67, 68, 595, 596, 597, 598, 71, 599, 415, 416, 417, 72, 600, 601, 602, 603, 69, 604, 605, 606, 607, 73, 74, 608, 609, 610, 611, 612, 613, 614, 615, 616, 825, 826, 827, 828, 829, 830, 831, 832, 880, 881, 882, 883, 884, 885, 886, 887, 888, 889, 890, 891, 892, 911, 912, 913, 914] (by decide +kernel) (by decide +kernel)
set_option maxRecDepth 20000 in
theorem gL_law_X8_least : GoodIn wsL_law (wsV RL 104 RX8 yX8_least wsX8_least) := goodIn_app (goodIn_of _ (by decide +kernel)) ggL_law_X8_least
set_option maxRecDepth 20000 in
theorem ggL_law_X9_least : GoodIn wsL_law wsX9_least := goodIn_r _ [620, 125, 621, 622, 623, 624, 5, 625, 441, 626, 567, 98, 99, 101, 436, 104, 96, 97, 627, 628, 629, 630, 631, 632, 633, 634, 635, 636, 637, 638, 639, 640, 641, 102, 103, 100, 642, 643, 644, 645, 646, 647, 648, 649, 650, 651, 652, 653, 833, 834, 835, 836, 837, 838, 839, 840, 841, 842, 843, 844, 845, 846, 847, 848, 849, 850, 851, 852, 853, 854, 855, 856, 857, 858, 859, 860, 861, 862, 863, 864, 865] (by decide +kernel) (by decide +kernel)
set_option maxRecDepth 20000 in
theorem gL_law_X9_least : GoodIn wsL_law (wsV RL 107 RX9 yX9_least wsX9_least) := goodIn_app (goodIn_of _ (by decide +kernel)) ggL_law_X9_least
set_option maxRecDepth 20000 in
theorem ggL_law_X8_wrong : GoodIn wsL_law wsX8_wrong := goodIn_r _ [657, 28, 573, 574, 575, 27, 576, 577, 560, 578, 579, 580, 581, 582, 583, 584, 585, 586, 587, 588, 589, 590, 591, 592, 593, 594, 66, 67, 68, 595, 596, 597, 598, 71, 599, 415, 416, 417, 72, 600, 601, 602, 603, 69, 604, 605, 606, 607, 73, 74, 608, 609, 610, 611, 612, 613, 614, 615, 616, 658, 659, 660, 661, 825, 826, 827, 828, 829, 830, 831, 832, 880, 881, 882, 883, 884, 885, 886, 887, 888, 889, 890, 891, 892, 911, 912, 913, 914] (by decide +kernel) (by decide +kernel)
set_option maxRecDepth 20000 in
theorem gL_law_X8_wrong : GoodIn wsL_law (wsV RL 108 RX8 yX8_wrong wsX8_wrong) := goodIn_app (goodIn_of _ (by decide +kernel)) ggL_law_X8_wrong
set_option maxRecDepth 20000 in
theorem ggL_law_X9_wrong : GoodIn wsL_law wsX9_wrong := goodIn_r _ [665, 125, 626, 621, 101, 622, 623, 624, 5, 625, 441, 567, 98, 99, 436, 104, 96, 97, 627, 628, 629, 630, 631, 632, 633, 634, 635, 636, 637, 638, 639, 640, 641, 102, 103, 100, 642, 643, 644, 645, 646, 647, 648, 649, 650, 651, 652, 653, 833, 834, 835, 836, 837, 838, 839, 840, 841, 842, 843, 844, 845, 846, 847, 848, 849, 850, 851, 852, 853, 854, 855, 856, 857, 858, 859, 860, 861, 862, 863, 864, 865] (by decide +kernel) (by decide +kernel)
set_option maxRecDepth 20000 in
theorem gL_law_X9_wrong : GoodIn wsL_law (wsV RL 111 RX9 yX9_wrong wsX9_wrong) := goodIn_app (goodIn_of _ (by decide +kernel)) ggL_law_X9_wrong
set_option maxRecDepth 20000 in
theorem ggL_law_L_settled : GoodIn wsL_law wsL_settled := goodIn_ca (goodIn_r _ [668, 172, 669, 670, 671, 2, 672, 28, 505, 506, 507, 508, 181, 182, 34, 16, 573, 574, 575, 27, 576, 577, 560, 578, 579, 580, 581, 582, 583, 584, 585, 586, 587, 588, 589, 590, 591, 592, 593, 594, 66, 67, 68, 595, 596, 597, 598, 71, 599, 415, 416, 417, 72, 600, 601, 602, 603, 69, 604, 605, 606, 607, 73, 74, 608, 609, 610, 611, 612, 613, 614, 615, 616, 673, 674, 675, 676, 825, 826, 827, 828, 829, 830, 831, 832, 880, 881, 882, 883, 884, 885, 886, 887, 888, 889, 890, 891, 892, 911, 912, 913, 914] (by decide +kernel) (by decide +kernel)) (goodIn_sub (fun _ h => List.mem_append_right _ h) (by decide +kernel))
set_option maxRecDepth 20000 in
theorem gL_law_L_settled : GoodIn wsL_law (va_wsS RL 112 yL_settled wsL_settled) := goodIn_app (goodIn_of _ (by decide +kernel)) ggL_law_L_settled
set_option maxRecDepth 20000 in
theorem ggL_law_X9_settled : GoodIn wsL_law wsX9_settled := goodIn_r _ [680, 104, 513, 514, 515, 5, 516, 436, 125, 627, 628, 629, 630, 96, 622, 623, 624, 625, 441, 626, 567, 98, 99, 101, 621, 97, 631, 632, 633, 634, 635, 636, 637, 638, 639, 640, 641, 102, 103, 100, 642, 643, 644, 645, 646, 647, 648, 649, 650, 651, 652, 653, 833, 834, 835, 836, 837, 838, 839, 840, 841, 842, 843, 844, 845, 846, 847, 848, 849, 850, 851, 852, 853, 854, 855, 856, 857, 858, 859, 860, 861, 862, 863, 864, 865] (by decide +kernel) (by decide +kernel)
set_option maxRecDepth 20000 in
theorem gL_law_X9_settled : GoodIn wsL_law (wsV RL 114 RX9 yX9_settled wsX9_settled) := goodIn_app (goodIn_of _ (by decide +kernel)) ggL_law_X9_settled
set_option maxRecDepth 20000 in
theorem ggL_law_L_settledDay : GoodIn wsL_law wsL_settledDay := goodIn_ca (goodIn_r _ [683, 172, 684, 685, 686, 2, 687, 28, 505, 506, 507, 508, 181, 182, 34, 16, 573, 574, 575, 27, 576, 577, 560, 578, 579, 580, 581, 582, 583, 584, 585, 586, 587, 588, 589, 590, 591, 592, 593, 594, 66, 67, 68, 595, 596, 597, 598, 71, 599, 415, 416, 417, 72, 600, 601, 602, 603, 69, 604, 605, 606, 607, 73, 74, 608, 609, 610, 611, 612, 613, 614, 615, 616, 688, 689, 690, 691, 692, 674, 675, 676, 825, 826, 827, 828, 829, 830, 831, 832, 880, 881, 882, 883, 884, 885, 886, 887, 888, 889, 890, 891, 892, 911, 912, 913, 914] (by decide +kernel) (by decide +kernel)) (goodIn_sub (fun _ h => List.mem_append_right _ h) (by decide +kernel))
set_option maxRecDepth 20000 in
theorem gL_law_L_settledDay : GoodIn wsL_law (va_wsS RL 115 yL_settledDay wsL_settledDay) := goodIn_app (goodIn_of _ (by decide +kernel)) ggL_law_L_settledDay
set_option maxRecDepth 20000 in
theorem ggL_law_X9_settledDay : GoodIn wsL_law wsX9_settledDay := goodIn_r _ [696, 104, 97, 513, 514, 515, 5, 516, 436, 125, 627, 628, 629, 630, 96, 622, 623, 624, 625, 441, 626, 567, 98, 99, 101, 621, 631, 632, 633, 634, 635, 636, 637, 638, 639, 640, 641, 102, 103, 100, 642, 643, 644, 645, 646, 647, 648, 649, 650, 651, 652, 653, 833, 834, 835, 836, 837, 838, 839, 840, 841, 842, 843, 844, 845, 846, 847, 848, 849, 850, 851, 852, 853, 854, 855, 856, 857, 858, 859, 860, 861, 862, 863, 864, 865] (by decide +kernel) (by decide +kernel)
set_option maxRecDepth 20000 in
theorem gL_law_X9_settledDay : GoodIn wsL_law (wsV RL 117 RX9 yX9_settledDay wsX9_settledDay) := goodIn_app (goodIn_of _ (by decide +kernel)) ggL_law_X9_settledDay
set_option maxRecDepth 20000 in
theorem ggL_law_L_eclipse : GoodIn wsL_law wsL_eclipse := goodIn_ca (goodIn_r _ [699, 111, 700, 701, 702, 2, 703, 117, 118, 704, 32, 705, 706, 707, 31, 708, 709, 78, 710, 415, 416, 417, 85, 825, 826, 827, 828, 829, 830, 831, 832, 893, 894, 895, 896, 897, 898, 899, 900, 901, 902, 903, 904, 905, 906, 907] (by decide +kernel) (by decide +kernel)) (goodIn_sub (fun _ h => List.mem_append_left _ (List.mem_append_left _ (List.mem_append_right _ h))) (by decide +kernel))
set_option maxRecDepth 20000 in
theorem gL_law_L_eclipse : GoodIn wsL_law (va_wsS RL 118 yL_eclipse wsL_eclipse) := goodIn_app (goodIn_of _ (by decide +kernel)) ggL_law_L_eclipse
set_option maxRecDepth 20000 in
theorem ggL_law_X9_eclipse : GoodIn wsL_law wsX9_eclipse := goodIn_r _ [714, 125, 715, 716, 105, 127, 128, 129, 5, 130, 833, 834, 835, 836, 837, 838, 839, 840, 841, 842, 843, 844, 845, 846, 847, 848, 849, 850, 851, 852, 853, 854, 855, 856, 857, 858, 859, 860, 861, 862, 863, 864, 865] (by decide +kernel) (by decide +kernel)
set_option maxRecDepth 20000 in
theorem gL_law_X9_eclipse : GoodIn wsL_law (wsV RL 120 RX9 yX9_eclipse wsX9_eclipse) := goodIn_app (goodIn_of _ (by decide +kernel)) ggL_law_X9_eclipse
set_option maxRecDepth 20000 in
theorem ggL_law_L_names : GoodIn wsL_law wsL_names := goodIn_ca (goodIn_ca (goodIn_r _ [719, 172, 112, 720, 721, 722, 2, 723, 119, 120, 504, 524, 32, 505, 506, 507, 508, 181, 182, 34, 16, 724, 725, 726, 31, 727, 80, 81, 728, 85, 911, 912, 913, 914, 825, 826, 827, 828, 829, 830, 831, 832, 893, 894, 895, 896, 897, 898, 899, 900, 901, 902, 903, 904, 905, 906, 907] (by decide +kernel) (by decide +kernel)) (goodIn_sub (fun _ h => List.mem_append_left _ (List.mem_append_right _ h)) (by decide +kernel))) (goodIn_sub (fun _ h => List.mem_append_right _ h) (by decide +kernel))
set_option maxRecDepth 20000 in
theorem gL_law_L_names : GoodIn wsL_law (va_wsS RL 121 yL_names wsL_names) := goodIn_app (goodIn_of _ (by decide +kernel)) ggL_law_L_names
set_option maxRecDepth 20000 in
theorem ggL_law_X9_names : GoodIn wsL_law wsX9_names := goodIn_r _ [732, 96, 106, 513, 514, 515, 5, 516, 436, 125, 127, 128, 129, 130, 833, 834, 835, 836, 837, 838, 839, 840, 841, 842, 843, 844, 845, 846, 847, 848, 849, 850, 851, 852, 853, 854, 855, 856, 857, 858, 859, 860, 861, 862, 863, 864, 865] (by decide +kernel) (by decide +kernel)
set_option maxRecDepth 20000 in
theorem gL_law_X9_names : GoodIn wsL_law (wsV RL 124 RX9 yX9_names wsX9_names) := goodIn_app (goodIn_of _ (by decide +kernel)) ggL_law_X9_names
set_option maxRecDepth 20000 in
theorem ggL_law_L_start : GoodIn wsL_law wsL_start := goodIn_ca (goodIn_ca (goodIn_r _ [735, 111, 112, 736, 737, 738, 2, 739, 32, 740, 741, 742, 743, 744, 117, 118, 119, 120, 745, 746, 747, 748, 749, 31, 750, 85, 751, 752, 753, 754, 709, 82, 84, 83, 755, 756, 757, 758, 78, 759, 56, 57, 58, 760, 236, 237, 761, 762, 763, 764, 80, 81, 765, 766, 767, 768, 769, 770, 771, 772, 773, 774, 775, 776, 777, 778, 779, 825, 826, 827, 828, 829, 830, 831, 832, 893, 894, 895, 896, 897, 898, 899, 900, 901, 902, 903, 904, 905, 906, 907] (by decide +kernel) (by decide +kernel)) (goodIn_sub (fun _ h => List.mem_append_left _ (List.mem_append_left _ (List.mem_append_right _ h))) (by decide +kernel))) (goodIn_sub (fun _ h => List.mem_append_left _ (List.mem_append_right _ h)) (by decide +kernel))
set_option maxRecDepth 20000 in
theorem gL_law_L_start : GoodIn wsL_law (va_wsS RL 125 yL_start wsL_start) := goodIn_app (goodIn_of _ (by decide +kernel)) ggL_law_L_start
set_option maxRecDepth 20000 in
theorem ggL_law_X9_start : GoodIn wsL_law wsX9_start := goodIn_r _ [783, 784, 785, 786, 787, 5, 788, 125, 716, 127, 128, 129, 130, 789, 790, 791, 792, 436, 106, 793, 794, 795, 796, 797, 798, 799, 105, 97, 800, 801, 802, 803, 833, 834, 835, 836, 837, 838, 839, 840, 841, 842, 843, 844, 845, 846, 847, 848, 849, 850, 851, 852, 853, 854, 855, 856, 857, 858, 859, 860, 861, 862, 863, 864, 865] (by decide +kernel) (by decide +kernel)
set_option maxRecDepth 20000 in
theorem gL_law_X9_start : GoodIn wsL_law (wsV RL 127 RX9 yX9_start wsX9_start) := goodIn_app (goodIn_of _ (by decide +kernel)) ggL_law_X9_start
set_option maxRecDepth 20000 in
theorem ggL_law_L_agrees : GoodIn wsL_law wsL_agrees := goodIn_ca (goodIn_ca (goodIn_r _ [806, 111, 112, 807, 808, 809, 2, 810, 32, 811, 741, 742, 743, 744, 117, 118, 119, 120, 745, 746, 747, 748, 749, 31, 750, 85, 751, 752, 753, 754, 709, 82, 84, 83, 755, 756, 757, 758, 78, 759, 56, 57, 58, 760, 236, 237, 761, 762, 763, 764, 80, 81, 765, 766, 767, 768, 769, 770, 771, 772, 773, 774, 775, 776, 777, 778, 779, 825, 826, 827, 828, 829, 830, 831, 832, 893, 894, 895, 896, 897, 898, 899, 900, 901, 902, 903, 904, 905, 906, 907] (by decide +kernel) (by decide +kernel)) (goodIn_sub (fun _ h => List.mem_append_left _ (List.mem_append_left _ (List.mem_append_right _ h))) (by decide +kernel))) (goodIn_sub (fun _ h => List.mem_append_left _ (List.mem_append_right _ h)) (by decide +kernel))
set_option maxRecDepth 20000 in
theorem gL_law_L_agrees : GoodIn wsL_law (va_wsS RL 128 yL_agrees wsL_agrees) := goodIn_app (goodIn_of _ (by decide +kernel)) ggL_law_L_agrees
set_option maxRecDepth 20000 in
theorem ggL_law_X9_agrees : GoodIn wsL_law wsX9_agrees := goodIn_r _ [815, 797, 785, 786, 787, 5, 788, 125, 716, 127, 128, 129, 130, 789, 790, 791, 792, 436, 106, 793, 794, 795, 796, 798, 799, 784, 105, 97, 800, 801, 802, 803, 833, 834, 835, 836, 837, 838, 839, 840, 841, 842, 843, 844, 845, 846, 847, 848, 849, 850, 851, 852, 853, 854, 855, 856, 857, 858, 859, 860, 861, 862, 863, 864, 865] (by decide +kernel) (by decide +kernel)
set_option maxRecDepth 20000 in
theorem gL_law_X9_agrees : GoodIn wsL_law (wsV RL 130 RX9 yX9_agrees wsX9_agrees) := goodIn_app (goodIn_of _ (by decide +kernel)) ggL_law_X9_agrees
set_option maxRecDepth 20000 in
theorem ggL_law_X8_count : GoodIn wsL_law wsX8_count := goodIn_r _ [819, 33, 34, 28, 555, 32, 745, 746, 20, 196, 820, 825, 826, 827, 828, 829, 830, 831, 832, 880, 881, 882, 883, 884, 885, 886, 887, 888, 889, 890, 891, 892, 893, 894, 895, 896, 897, 898, 899, 900, 901, 902, 903, 904, 905, 906, 907, 866, 867, 868, 869, 870, 871, 872] (by decide +kernel) (by decide +kernel)
set_option maxRecDepth 20000 in
theorem gL_law_X8_count : GoodIn wsL_law (wsV RL 131 RX8 yX8_count wsX8_count) := goodIn_app (goodIn_of _ (by decide +kernel)) ggL_law_X8_count
set_option maxRecDepth 20000 in
theorem ggL_law_X9_count : GoodIn wsL_law wsX9_count := goodIn_r _ [824, 125, 126, 436, 567, 716, 210, 789, 790, 791, 5, 792, 106, 627, 628, 629, 630, 96, 833, 834, 835, 836, 837, 838, 839, 840, 841, 842, 843, 844, 845, 846, 847, 848, 849, 850, 851, 852, 853, 854, 855, 856, 857, 858, 859, 860, 861, 862, 863, 864, 865] (by decide +kernel) (by decide +kernel)
set_option maxRecDepth 20000 in
theorem gL_law_X9_count : GoodIn wsL_law (wsV RL 134 RX9 yX9_count wsX9_count) := goodIn_app (goodIn_of _ (by decide +kernel)) ggL_law_X9_count
