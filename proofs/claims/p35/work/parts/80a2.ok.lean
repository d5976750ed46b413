theorem jw_JI_bitCount : jv_ok jm_JI_bitCount = true := by decide +kernel
theorem jx_JI_bitCount : jv_mk jm_JI_bitCount 644 643 100 0 = true := by decide +kernel
theorem jw_Sections_wordAt : jv_ok jm_Sections_wordAt = true := by decide +kernel
theorem jx_Sections_wordAt : jv_mk jm_Sections_wordAt 655 653 86 654 = true := by decide +kernel
theorem jw_Sections_worthTo : jv_ok jm_Sections_worthTo = true := by decide +kernel
theorem jx_Sections_worthTo : jv_mk jm_Sections_worthTo 664 662 86 663 = true := by decide +kernel
theorem jw_Machine_sets : jv_ok jm_Machine_sets = true := by decide +kernel
theorem jx_Machine_sets : jv_mk jm_Machine_sets 705 703 92 704 = true := by decide +kernel
theorem jw_Machine_setsHouse : jv_ok jm_Machine_setsHouse = true := by decide +kernel
theorem jx_Machine_setsHouse : jv_mk jm_Machine_setsHouse 717 715 92 716 = true := by decide +kernel
theorem jw_Machine_run : jv_ok jm_Machine_run = true := by decide +kernel
theorem jx_Machine_run : jv_mk jm_Machine_run 721 719 92 720 = true := by decide +kernel
theorem jw_Machine_joined : jv_ok jm_Machine_joined = true := by decide +kernel
theorem jx_Machine_joined : jv_mk jm_Machine_joined 724 723 92 0 = true := by decide +kernel
theorem jw_Sections_has : jv_ok jm_Sections_has = true := by decide +kernel
theorem jx_Sections_has : jv_mk jm_Sections_has 746 744 86 745 = true := by decide +kernel
theorem jw_Motions_has : jv_ok jm_Motions_has = true := by decide +kernel
theorem jx_Motions_has : jv_mk jm_Motions_has 750 748 87 749 = true := by decide +kernel
theorem jw_Motions_isFull : jv_ok jm_Motions_isFull = true := by decide +kernel
theorem jx_Motions_isFull : jv_mk jm_Motions_isFull 762 760 87 761 = true := by decide +kernel
theorem jw_Motions_push : jv_ok jm_Motions_push = true := by decide +kernel
theorem jx_Motions_push : jv_mk jm_Motions_push 766 764 87 765 = true := by decide +kernel
theorem jw_Sections_gain : jv_ok jm_Sections_gain = true := by decide +kernel
theorem jx_Sections_gain : jv_mk jm_Sections_gain 790 788 86 789 = true := by decide +kernel
theorem jw_Foresight_namesEachOnce : jv_ok jm_Foresight_namesEachOnce = true := by decide +kernel
theorem jx_Foresight_namesEachOnce : jv_mk jm_Foresight_namesEachOnce 839 837 88 838 = true := by decide +kernel
theorem jw_Foresight_begin : jv_ok jm_Foresight_begin = true := by decide +kernel
theorem jx_Foresight_begin : jv_mk jm_Foresight_begin 844 842 88 843 = true := by decide +kernel
theorem jw_Sections_copyFrom : jv_ok jm_Sections_copyFrom = true := by decide +kernel
theorem jx_Sections_copyFrom : jv_mk jm_Sections_copyFrom 848 846 86 847 = true := by decide +kernel
theorem jw_Foresight_goesOn : jv_ok jm_Foresight_goesOn = true := by decide +kernel
theorem jx_Foresight_goesOn : jv_mk jm_Foresight_goesOn 856 854 88 855 = true := by decide +kernel
theorem jw_Foresight_worthBehindAll : jv_ok jm_Foresight_worthBehindAll = true := by decide +kernel
theorem jx_Foresight_worthBehindAll : jv_mk jm_Foresight_worthBehindAll 861 859 88 860 = true := by decide +kernel
theorem jw_Foresight_weigh : jv_ok jm_Foresight_weigh = true := by decide +kernel
theorem jx_Foresight_weigh : jv_mk jm_Foresight_weigh 873 871 88 872 = true := by decide +kernel
theorem jw_Conference_bring : jv_ok jm_Conference_bring = true := by decide +kernel
theorem jx_Conference_bring : jv_mk jm_Conference_bring 881 879 93 880 = true := by decide +kernel
theorem jw_Conference_measure : jv_ok jm_Conference_measure = true := by decide +kernel
theorem jx_Conference_measure : jv_mk jm_Conference_measure 885 884 93 36 = true := by decide +kernel
theorem jw_Conference_leastNext : jv_ok jm_Conference_leastNext = true := by decide +kernel
theorem jx_Conference_leastNext : jv_mk jm_Conference_leastNext 892 891 93 37 = true := by decide +kernel
theorem jw_Conference_placeFrom : jv_ok jm_Conference_placeFrom = true := by decide +kernel
theorem jx_Conference_placeFrom : jv_mk jm_Conference_placeFrom 896 895 93 0 = true := by decide +kernel
theorem jw_Tray_reset : jv_ok jm_Tray_reset = true := by decide +kernel
theorem jx_Tray_reset : jv_mk jm_Tray_reset 915 913 94 914 = true := by decide +kernel
theorem jw_Tray_has : jv_ok jm_Tray_has = true := by decide +kernel
theorem jx_Tray_has : jv_mk jm_Tray_has 923 921 94 922 = true := by decide +kernel
