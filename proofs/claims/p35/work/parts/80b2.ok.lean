theorem jw_C_would : jv_ok jm_C_would = true := by decide +kernel
theorem jx_C_would : jv_mk jm_C_would 814 812 83 813 = true := by decide +kernel
theorem jw_C_motion : jv_ok jm_C_motion = true := by decide +kernel
theorem jx_C_motion : jv_mk jm_C_motion 818 816 83 817 = true := by decide +kernel
theorem jw_C_yield : jv_ok jm_C_yield = true := by decide +kernel
theorem jx_C_yield : jv_mk jm_C_yield 823 821 83 822 = true := by decide +kernel
theorem jw_C_day : jv_ok jm_C_day = true := by decide +kernel
theorem jx_C_day : jv_mk jm_C_day 827 825 83 826 = true := by decide +kernel
theorem jw_C_tell : jv_ok jm_C_tell = true := by decide +kernel
theorem jx_C_tell : jv_mk jm_C_tell 831 829 83 830 = true := by decide +kernel
theorem jw_C_foresee : jv_ok jm_C_foresee = true := by decide +kernel
theorem jx_C_foresee : jv_mk jm_C_foresee 835 833 83 834 = true := by decide +kernel
theorem jw_C_foreseeOne : jv_ok jm_C_foreseeOne = true := by decide +kernel
theorem jx_C_foreseeOne : jv_mk jm_C_foreseeOne 852 851 83 35 = true := by decide +kernel
theorem jw_C_best : jv_ok jm_C_best = true := by decide +kernel
theorem jx_C_best : jv_mk jm_C_best 866 864 83 865 = true := by decide +kernel
theorem jw_C_search : jv_ok jm_C_search = true := by decide +kernel
theorem jx_C_search : jv_mk jm_C_search 869 868 83 0 = true := by decide +kernel
theorem jw_C_confer : jv_ok jm_C_confer = true := by decide +kernel
theorem jx_C_confer : jv_mk jm_C_confer 877 875 83 876 = true := by decide +kernel
theorem jw_C_conferred : jv_ok jm_C_conferred = true := by decide +kernel
theorem jx_C_conferred : jv_mk jm_C_conferred 900 898 83 899 = true := by decide +kernel
theorem jw_C_count : jv_ok jm_C_count = true := by decide +kernel
theorem jx_C_count : jv_mk jm_C_count 904 902 83 903 = true := by decide +kernel
theorem jw_C_tray : jv_ok jm_C_tray = true := by decide +kernel
theorem jx_C_tray : jv_mk jm_C_tray 908 906 83 907 = true := by decide +kernel
theorem jw_C_isTray : jv_ok jm_C_isTray = true := by decide +kernel
theorem jx_C_isTray : jv_mk jm_C_isTray 911 910 83 0 = true := by decide +kernel
theorem jw_C_cell : jv_ok jm_C_cell = true := by decide +kernel
theorem jx_C_cell : jv_mk jm_C_cell 919 917 83 918 = true := by decide +kernel
theorem jw_C_made : jv_ok jm_C_made = true := by decide +kernel
theorem jx_C_made : jv_mk jm_C_made 927 925 83 926 = true := by decide +kernel
theorem jw_C_taken : jv_ok jm_C_taken = true := by decide +kernel
theorem jx_C_taken : jv_mk jm_C_taken 932 930 83 931 = true := by decide +kernel
theorem jw_C_isUnder : jv_ok jm_C_isUnder = true := by decide +kernel
theorem jx_C_isUnder : jv_mk jm_C_isUnder 935 934 83 0 = true := by decide +kernel
