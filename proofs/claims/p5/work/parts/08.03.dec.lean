theorem dL_law_1954 : decode cL_law 1954 = .ok (.invokevirtual 224, 3) := by decide +kernel
theorem dL_law_1957 : decode cL_law 1957 = .ok (.pop, 1) := by decide +kernel
theorem dL_law_1958 : decode cL_law 1958 = .ok (.goto 155, 3) := by decide +kernel
theorem dL_law_1961 : decode cL_law 1961 = .ok (.aload_n 1, 1) := by decide +kernel
theorem dL_law_1962 : decode cL_law 1962 = .ok (.aload_n 0, 1) := by decide +kernel
theorem dL_law_1963 : decode cL_law 1963 = .ok (.iload_n 3, 1) := by decide +kernel
theorem dL_law_1964 : decode cL_law 1964 = .ok (.iconst 1, 1) := by decide +kernel
theorem dL_law_1965 : decode cL_law 1965 = .ok (.iadd, 1) := by decide +kernel
theorem dL_law_1966 : decode cL_law 1966 = .ok (.iaload, 1) := by decide +kernel
theorem dL_law_1967 : decode cL_law 1967 = .ok (.aload_n 0, 1) := by decide +kernel
theorem dL_law_1968 : decode cL_law 1968 = .ok (.iload_n 3, 1) := by decide +kernel
theorem dL_law_1969 : decode cL_law 1969 = .ok (.iconst 2, 1) := by decide +kernel
theorem dL_law_1970 : decode cL_law 1970 = .ok (.iadd, 1) := by decide +kernel
theorem dL_law_1971 : decode cL_law 1971 = .ok (.iaload, 1) := by decide +kernel
theorem dL_law_1972 : decode cL_law 1972 = .ok (.invokevirtual 225, 3) := by decide +kernel
theorem dL_law_1975 : decode cL_law 1975 = .ok (.pop2, 1) := by decide +kernel
theorem dL_law_1976 : decode cL_law 1976 = .ok (.aload_n 2, 1) := by decide +kernel
theorem dL_law_1977 : decode cL_law 1977 = .ok (.aload_n 0, 1) := by decide +kernel
theorem dL_law_1978 : decode cL_law 1978 = .ok (.iload_n 3, 1) := by decide +kernel
theorem dL_law_1979 : decode cL_law 1979 = .ok (.iconst 1, 1) := by decide +kernel
theorem dL_law_1980 : decode cL_law 1980 = .ok (.iadd, 1) := by decide +kernel
theorem dL_law_1981 : decode cL_law 1981 = .ok (.iaload, 1) := by decide +kernel
theorem dL_law_1982 : decode cL_law 1982 = .ok (.aload_n 0, 1) := by decide +kernel
theorem dL_law_1983 : decode cL_law 1983 = .ok (.iload_n 3, 1) := by decide +kernel
theorem dL_law_1984 : decode cL_law 1984 = .ok (.iconst 2, 1) := by decide +kernel
theorem dL_law_1985 : decode cL_law 1985 = .ok (.iadd, 1) := by decide +kernel
theorem dL_law_1986 : decode cL_law 1986 = .ok (.iaload, 1) := by decide +kernel
theorem dL_law_1987 : decode cL_law 1987 = .ok (.invokevirtual 229, 3) := by decide +kernel
theorem dL_law_1990 : decode cL_law 1990 = .ok (.pop2, 1) := by decide +kernel
theorem dL_law_1991 : decode cL_law 1991 = .ok (.goto 122, 3) := by decide +kernel
theorem dL_law_1994 : decode cL_law 1994 = .ok (.aload_n 1, 1) := by decide +kernel
theorem dL_law_1995 : decode cL_law 1995 = .ok (.aload_n 0, 1) := by decide +kernel
theorem dL_law_1996 : decode cL_law 1996 = .ok (.iload_n 3, 1) := by decide +kernel
theorem dL_law_1997 : decode cL_law 1997 = .ok (.iconst 1, 1) := by decide +kernel
theorem dL_law_1998 : decode cL_law 1998 = .ok (.iadd, 1) := by decide +kernel
theorem dL_law_1999 : decode cL_law 1999 = .ok (.iaload, 1) := by decide +kernel
theorem dL_law_2000 : decode cL_law 2000 = .ok (.aload_n 0, 1) := by decide +kernel
theorem dL_law_2001 : decode cL_law 2001 = .ok (.iload_n 3, 1) := by decide +kernel
theorem dL_law_2002 : decode cL_law 2002 = .ok (.iconst 2, 1) := by decide +kernel
theorem dL_law_2003 : decode cL_law 2003 = .ok (.iadd, 1) := by decide +kernel
theorem dL_law_2004 : decode cL_law 2004 = .ok (.iaload, 1) := by decide +kernel
theorem dL_law_2005 : decode cL_law 2005 = .ok (.aload_n 0, 1) := by decide +kernel
theorem dL_law_2006 : decode cL_law 2006 = .ok (.iload_n 3, 1) := by decide +kernel
theorem dL_law_2007 : decode cL_law 2007 = .ok (.iconst 3, 1) := by decide +kernel
theorem dL_law_2008 : decode cL_law 2008 = .ok (.iadd, 1) := by decide +kernel
theorem dL_law_2009 : decode cL_law 2009 = .ok (.iaload, 1) := by decide +kernel
theorem dL_law_2010 : decode cL_law 2010 = .ok (.aload_n 0, 1) := by decide +kernel
theorem dL_law_2011 : decode cL_law 2011 = .ok (.iload_n 3, 1) := by decide +kernel
theorem dL_law_2012 : decode cL_law 2012 = .ok (.iconst 4, 1) := by decide +kernel
theorem dL_law_2013 : decode cL_law 2013 = .ok (.iadd, 1) := by decide +kernel
theorem dL_law_2014 : decode cL_law 2014 = .ok (.iaload, 1) := by decide +kernel
theorem dL_law_2015 : decode cL_law 2015 = .ok (.aload_n 0, 1) := by decide +kernel
theorem dL_law_2016 : decode cL_law 2016 = .ok (.iload_n 3, 1) := by decide +kernel
theorem dL_law_2017 : decode cL_law 2017 = .ok (.iconst 5, 1) := by decide +kernel
theorem dL_law_2018 : decode cL_law 2018 = .ok (.iadd, 1) := by decide +kernel
theorem dL_law_2019 : decode cL_law 2019 = .ok (.iaload, 1) := by decide +kernel
theorem dL_law_2020 : decode cL_law 2020 = .ok (.invokevirtual 230, 3) := by decide +kernel
theorem dL_law_2023 : decode cL_law 2023 = .ok (.pop, 1) := by decide +kernel
theorem dL_law_2024 : decode cL_law 2024 = .ok (.aload_n 2, 1) := by decide +kernel
theorem dL_law_2025 : decode cL_law 2025 = .ok (.aload_n 0, 1) := by decide +kernel
theorem dL_law_2026 : decode cL_law 2026 = .ok (.iload_n 3, 1) := by decide +kernel
theorem dL_law_2027 : decode cL_law 2027 = .ok (.iconst 1, 1) := by decide +kernel
theorem dL_law_2028 : decode cL_law 2028 = .ok (.iadd, 1) := by decide +kernel
theorem dL_law_2029 : decode cL_law 2029 = .ok (.iaload, 1) := by decide +kernel
theorem dL_law_2030 : decode cL_law 2030 = .ok (.aload_n 0, 1) := by decide +kernel
theorem dL_law_2031 : decode cL_law 2031 = .ok (.iload_n 3, 1) := by decide +kernel
theorem dL_law_2032 : decode cL_law 2032 = .ok (.iconst 2, 1) := by decide +kernel
theorem dL_law_2033 : decode cL_law 2033 = .ok (.iadd, 1) := by decide +kernel
theorem dL_law_2034 : decode cL_law 2034 = .ok (.iaload, 1) := by decide +kernel
theorem dL_law_2035 : decode cL_law 2035 = .ok (.aload_n 0, 1) := by decide +kernel
theorem dL_law_2036 : decode cL_law 2036 = .ok (.iload_n 3, 1) := by decide +kernel
theorem dL_law_2037 : decode cL_law 2037 = .ok (.iconst 3, 1) := by decide +kernel
theorem dL_law_2038 : decode cL_law 2038 = .ok (.iadd, 1) := by decide +kernel
theorem dL_law_2039 : decode cL_law 2039 = .ok (.iaload, 1) := by decide +kernel
theorem dL_law_2040 : decode cL_law 2040 = .ok (.aload_n 0, 1) := by decide +kernel
theorem dL_law_2041 : decode cL_law 2041 = .ok (.iload_n 3, 1) := by decide +kernel
theorem dL_law_2042 : decode cL_law 2042 = .ok (.iconst 4, 1) := by decide +kernel
theorem dL_law_2043 : decode cL_law 2043 = .ok (.iadd, 1) := by decide +kernel
theorem dL_law_2044 : decode cL_law 2044 = .ok (.iaload, 1) := by decide +kernel
theorem dL_law_2045 : decode cL_law 2045 = .ok (.aload_n 0, 1) := by decide +kernel
theorem dL_law_2046 : decode cL_law 2046 = .ok (.iload_n 3, 1) := by decide +kernel
theorem dL_law_2047 : decode cL_law 2047 = .ok (.iconst 5, 1) := by decide +kernel
theorem dL_law_2048 : decode cL_law 2048 = .ok (.iadd, 1) := by decide +kernel
theorem dL_law_2049 : decode cL_law 2049 = .ok (.iaload, 1) := by decide +kernel
theorem dL_law_2050 : decode cL_law 2050 = .ok (.invokevirtual 233, 3) := by decide +kernel
theorem dL_law_2053 : decode cL_law 2053 = .ok (.pop, 1) := by decide +kernel
theorem dL_law_2054 : decode cL_law 2054 = .ok (.goto 59, 3) := by decide +kernel
theorem dL_law_2057 : decode cL_law 2057 = .ok (.aload_n 1, 1) := by decide +kernel
theorem dL_law_2058 : decode cL_law 2058 = .ok (.aload_n 0, 1) := by decide +kernel
theorem dL_law_2059 : decode cL_law 2059 = .ok (.iload_n 3, 1) := by decide +kernel
theorem dL_law_2060 : decode cL_law 2060 = .ok (.iconst 1, 1) := by decide +kernel
theorem dL_law_2061 : decode cL_law 2061 = .ok (.iadd, 1) := by decide +kernel
theorem dL_law_2062 : decode cL_law 2062 = .ok (.iaload, 1) := by decide +kernel
theorem dL_law_2063 : decode cL_law 2063 = .ok (.aload_n 0, 1) := by decide +kernel
theorem dL_law_2064 : decode cL_law 2064 = .ok (.iload_n 3, 1) := by decide +kernel
theorem dL_law_2065 : decode cL_law 2065 = .ok (.iconst 2, 1) := by decide +kernel
theorem dL_law_2066 : decode cL_law 2066 = .ok (.iadd, 1) := by decide +kernel
theorem dL_law_2067 : decode cL_law 2067 = .ok (.iaload, 1) := by decide +kernel
theorem dL_law_2068 : decode cL_law 2068 = .ok (.invokevirtual 234, 3) := by decide +kernel
theorem dL_law_2071 : decode cL_law 2071 = .ok (.pop, 1) := by decide +kernel
theorem dL_law_2072 : decode cL_law 2072 = .ok (.aload_n 2, 1) := by decide +kernel
theorem dL_law_2073 : decode cL_law 2073 = .ok (.aload_n 0, 1) := by decide +kernel
theorem dL_law_2074 : decode cL_law 2074 = .ok (.iload_n 3, 1) := by decide +kernel
theorem dL_law_2075 : decode cL_law 2075 = .ok (.iconst 1, 1) := by decide +kernel
theorem dL_law_2076 : decode cL_law 2076 = .ok (.iadd, 1) := by decide +kernel
theorem dL_law_2077 : decode cL_law 2077 = .ok (.iaload, 1) := by decide +kernel
theorem dL_law_2078 : decode cL_law 2078 = .ok (.aload_n 0, 1) := by decide +kernel
theorem dL_law_2079 : decode cL_law 2079 = .ok (.iload_n 3, 1) := by decide +kernel
theorem dL_law_2080 : decode cL_law 2080 = .ok (.iconst 2, 1) := by decide +kernel
theorem dL_law_2081 : decode cL_law 2081 = .ok (.iadd, 1) := by decide +kernel
theorem dL_law_2082 : decode cL_law 2082 = .ok (.iaload, 1) := by decide +kernel
theorem dL_law_2083 : decode cL_law 2083 = .ok (.invokevirtual 237, 3) := by decide +kernel
theorem dL_law_2086 : decode cL_law 2086 = .ok (.pop, 1) := by decide +kernel
theorem dL_law_2087 : decode cL_law 2087 = .ok (.goto 26, 3) := by decide +kernel
theorem dL_law_2090 : decode cL_law 2090 = .ok (.aload_n 1, 1) := by decide +kernel
theorem dL_law_2091 : decode cL_law 2091 = .ok (.aload_n 0, 1) := by decide +kernel
theorem dL_law_2092 : decode cL_law 2092 = .ok (.iload_n 3, 1) := by decide +kernel
theorem dL_law_2093 : decode cL_law 2093 = .ok (.iconst 1, 1) := by decide +kernel
theorem dL_law_2094 : decode cL_law 2094 = .ok (.iadd, 1) := by decide +kernel
theorem dL_law_2095 : decode cL_law 2095 = .ok (.iaload, 1) := by decide +kernel
theorem dL_law_2096 : decode cL_law 2096 = .ok (.invokevirtual 238, 3) := by decide +kernel
theorem dL_law_2099 : decode cL_law 2099 = .ok (.pop, 1) := by decide +kernel
theorem dL_law_2100 : decode cL_law 2100 = .ok (.aload_n 2, 1) := by decide +kernel
theorem dL_law_2101 : decode cL_law 2101 = .ok (.aload_n 0, 1) := by decide +kernel
theorem dL_law_2102 : decode cL_law 2102 = .ok (.iload_n 3, 1) := by decide +kernel
theorem dL_law_2103 : decode cL_law 2103 = .ok (.iconst 1, 1) := by decide +kernel
theorem dL_law_2104 : decode cL_law 2104 = .ok (.iadd, 1) := by decide +kernel
theorem dL_law_2105 : decode cL_law 2105 = .ok (.iaload, 1) := by decide +kernel
theorem dL_law_2106 : decode cL_law 2106 = .ok (.invokevirtual 241, 3) := by decide +kernel
theorem dL_law_2109 : decode cL_law 2109 = .ok (.pop, 1) := by decide +kernel
theorem dL_law_2110 : decode cL_law 2110 = .ok (.goto 3, 3) := by decide +kernel
theorem dL_law_2113 : decode cL_law 2113 = .ok (.iinc 3 6, 3) := by decide +kernel
theorem dL_law_2116 : decode cL_law 2116 = .ok (.goto (-2098), 3) := by decide +kernel
theorem dL_law_2119 : decode cL_law 2119 = .ok (.iconst 1, 1) := by decide +kernel
theorem dL_law_2120 : decode cL_law 2120 = .ok (.ireturn, 1) := by decide +kernel
theorem dX0_init_0 : decode cX0_init 0 = .ok (.aload_n 0, 1) := by decide +kernel
theorem dX0_init_1 : decode cX0_init 1 = .ok (.invokespecial 3, 3) := by decide +kernel
theorem dX0_init_4 : decode cX0_init 4 = .ok (.aload_n 0, 1) := by decide +kernel
theorem dX0_init_5 : decode cX0_init 5 = .ok (.bipush 120, 2) := by decide +kernel
theorem dX0_init_7 : decode cX0_init 7 = .ok (.newarray .int, 2) := by decide +kernel
theorem dX0_init_9 : decode cX0_init 9 = .ok (.putfield 9, 3) := by decide +kernel
theorem dX0_init_12 : decode cX0_init 12 = .ok (.aload_n 0, 1) := by decide +kernel
theorem dX0_init_13 : decode cX0_init 13 = .ok (.bipush 120, 2) := by decide +kernel
theorem dX0_init_15 : decode cX0_init 15 = .ok (.anewarray 15, 3) := by decide +kernel
theorem dX0_init_18 : decode cX0_init 18 = .ok (.putfield 17, 3) := by decide +kernel
theorem dX0_init_21 : decode cX0_init 21 = .ok (.aload_n 0, 1) := by decide +kernel
theorem dX0_init_22 : decode cX0_init 22 = .ok (.iconst (-1), 1) := by decide +kernel
theorem dX0_init_23 : decode cX0_init 23 = .ok (.putfield 21, 3) := by decide +kernel
theorem dX0_init_26 : decode cX0_init 26 = .ok (.aload_n 0, 1) := by decide +kernel
theorem dX0_init_27 : decode cX0_init 27 = .ok (.bipush 24, 2) := by decide +kernel
theorem dX0_init_29 : decode cX0_init 29 = .ok (.newarray .int, 2) := by decide +kernel
theorem dX0_init_31 : decode cX0_init 31 = .ok (.putfield 25, 3) := by decide +kernel
theorem dX0_init_34 : decode cX0_init 34 = .ok (.aload_n 0, 1) := by decide +kernel
theorem dX0_init_35 : decode cX0_init 35 = .ok (.aload_n 1, 1) := by decide +kernel
theorem dX0_init_36 : decode cX0_init 36 = .ok (.putfield 28, 3) := by decide +kernel
theorem dX0_init_39 : decode cX0_init 39 = .ok (.return_, 1) := by decide +kernel
theorem dX0_kindOf_0 : decode cX0_kindOf 0 = .ok (.iload_n 1, 1) := by decide +kernel
theorem dX0_kindOf_1 : decode cX0_kindOf 1 = .ok (.ifCond .lt 11, 3) := by decide +kernel
theorem dX0_kindOf_4 : decode cX0_kindOf 4 = .ok (.iload_n 1, 1) := by decide +kernel
theorem dX0_kindOf_5 : decode cX0_kindOf 5 = .ok (.aload_n 0, 1) := by decide +kernel
theorem dX0_kindOf_6 : decode cX0_kindOf 6 = .ok (.getfield 32, 3) := by decide +kernel
theorem dX0_kindOf_9 : decode cX0_kindOf 9 = .ok (.if_icmp .lt 7, 3) := by decide +kernel
theorem dX0_kindOf_12 : decode cX0_kindOf 12 = .ok (.iconst (-1), 1) := by decide +kernel
theorem dX0_kindOf_13 : decode cX0_kindOf 13 = .ok (.goto 9, 3) := by decide +kernel
theorem dX0_kindOf_16 : decode cX0_kindOf 16 = .ok (.aload_n 0, 1) := by decide +kernel
theorem dX0_kindOf_17 : decode cX0_kindOf 17 = .ok (.getfield 9, 3) := by decide +kernel
theorem dX0_kindOf_20 : decode cX0_kindOf 20 = .ok (.iload_n 1, 1) := by decide +kernel
theorem dX0_kindOf_21 : decode cX0_kindOf 21 = .ok (.iaload, 1) := by decide +kernel
theorem dX0_kindOf_22 : decode cX0_kindOf 22 = .ok (.ireturn, 1) := by decide +kernel
theorem dX0_holeOf_0 : decode cX0_holeOf 0 = .ok (.iload_n 1, 1) := by decide +kernel
theorem dX0_holeOf_1 : decode cX0_holeOf 1 = .ok (.ifCond .lt 11, 3) := by decide +kernel
theorem dX0_holeOf_4 : decode cX0_holeOf 4 = .ok (.iload_n 1, 1) := by decide +kernel
theorem dX0_holeOf_5 : decode cX0_holeOf 5 = .ok (.aload_n 0, 1) := by decide +kernel
theorem dX0_holeOf_6 : decode cX0_holeOf 6 = .ok (.getfield 32, 3) := by decide +kernel
theorem dX0_holeOf_9 : decode cX0_holeOf 9 = .ok (.if_icmp .lt 7, 3) := by decide +kernel
theorem dX0_holeOf_12 : decode cX0_holeOf 12 = .ok (.aconst_null, 1) := by decide +kernel
theorem dX0_holeOf_13 : decode cX0_holeOf 13 = .ok (.goto 9, 3) := by decide +kernel
theorem dX0_holeOf_16 : decode cX0_holeOf 16 = .ok (.aload_n 0, 1) := by decide +kernel
theorem dX0_holeOf_17 : decode cX0_holeOf 17 = .ok (.getfield 17, 3) := by decide +kernel
theorem dX0_holeOf_20 : decode cX0_holeOf 20 = .ok (.iload_n 1, 1) := by decide +kernel
theorem dX0_holeOf_21 : decode cX0_holeOf 21 = .ok (.aaload, 1) := by decide +kernel
theorem dX0_holeOf_22 : decode cX0_holeOf 22 = .ok (.areturn, 1) := by decide +kernel
theorem dX0_isUnder_0 : decode cX0_isUnder 0 = .ok (.aload_n 0, 1) := by decide +kernel
theorem dX0_isUnder_1 : decode cX0_isUnder 1 = .ok (.iload_n 1, 1) := by decide +kernel
theorem dX0_isUnder_2 : decode cX0_isUnder 2 = .ok (.invokevirtual 35, 3) := by decide +kernel
theorem dX0_isUnder_5 : decode cX0_isUnder 5 = .ok (.istore_n 3, 1) := by decide +kernel
theorem dX0_isUnder_6 : decode cX0_isUnder 6 = .ok (.iconst 0, 1) := by decide +kernel
theorem dX0_isUnder_7 : decode cX0_isUnder 7 = .ok (.istore 4, 2) := by decide +kernel
theorem dX0_isUnder_9 : decode cX0_isUnder 9 = .ok (.iload 4, 2) := by decide +kernel
theorem dX0_isUnder_11 : decode cX0_isUnder 11 = .ok (.getstatic 39, 3) := by decide +kernel
theorem dX0_isUnder_14 : decode cX0_isUnder 14 = .ok (.arraylength, 1) := by decide +kernel
theorem dX0_isUnder_15 : decode cX0_isUnder 15 = .ok (.if_icmp .ge 24, 3) := by decide +kernel
theorem dX0_isUnder_18 : decode cX0_isUnder 18 = .ok (.iload_n 3, 1) := by decide +kernel
theorem dX0_isUnder_19 : decode cX0_isUnder 19 = .ok (.ifCond .lt 20, 3) := by decide +kernel
theorem dX0_isUnder_22 : decode cX0_isUnder 22 = .ok (.iload_n 3, 1) := by decide +kernel
theorem dX0_isUnder_23 : decode cX0_isUnder 23 = .ok (.iload_n 2, 1) := by decide +kernel
theorem dX0_isUnder_24 : decode cX0_isUnder 24 = .ok (.if_icmp .eq 15, 3) := by decide +kernel
theorem dX0_isUnder_27 : decode cX0_isUnder 27 = .ok (.getstatic 39, 3) := by decide +kernel
theorem dX0_isUnder_30 : decode cX0_isUnder 30 = .ok (.iload_n 3, 1) := by decide +kernel
theorem dX0_isUnder_31 : decode cX0_isUnder 31 = .ok (.iaload, 1) := by decide +kernel
theorem dX0_isUnder_32 : decode cX0_isUnder 32 = .ok (.istore_n 3, 1) := by decide +kernel
theorem dX0_isUnder_33 : decode cX0_isUnder 33 = .ok (.iinc 4 1, 3) := by decide +kernel
theorem dX0_isUnder_36 : decode cX0_isUnder 36 = .ok (.goto (-27), 3) := by decide +kernel
theorem dX0_isUnder_39 : decode cX0_isUnder 39 = .ok (.iload_n 3, 1) := by decide +kernel
theorem dX0_isUnder_40 : decode cX0_isUnder 40 = .ok (.iload_n 2, 1) := by decide +kernel
theorem dX0_isUnder_41 : decode cX0_isUnder 41 = .ok (.if_icmp .ne 7, 3) := by decide +kernel
theorem dX0_isUnder_44 : decode cX0_isUnder 44 = .ok (.iconst 1, 1) := by decide +kernel
theorem dX0_isUnder_45 : decode cX0_isUnder 45 = .ok (.goto 4, 3) := by decide +kernel
theorem dX0_isUnder_48 : decode cX0_isUnder 48 = .ok (.iconst 0, 1) := by decide +kernel
theorem dX0_isUnder_49 : decode cX0_isUnder 49 = .ok (.ireturn, 1) := by decide +kernel
theorem dX0_added_0 : decode cX0_added 0 = .ok (.aload_n 0, 1) := by decide +kernel
theorem dX0_added_1 : decode cX0_added 1 = .ok (.getfield 32, 3) := by decide +kernel
theorem dX0_added_4 : decode cX0_added 4 = .ok (.bipush 120, 2) := by decide +kernel
theorem dX0_added_6 : decode cX0_added 6 = .ok (.if_icmp .lt 6, 3) := by decide +kernel
theorem dX0_added_9 : decode cX0_added 9 = .ok (.bipush (-3), 2) := by decide +kernel
theorem dX0_added_11 : decode cX0_added 11 = .ok (.ireturn, 1) := by decide +kernel
theorem dX0_added_12 : decode cX0_added 12 = .ok (.aload_n 0, 1) := by decide +kernel
theorem dX0_added_13 : decode cX0_added 13 = .ok (.getfield 9, 3) := by decide +kernel
theorem dX0_added_16 : decode cX0_added 16 = .ok (.aload_n 0, 1) := by decide +kernel
theorem dX0_added_17 : decode cX0_added 17 = .ok (.getfield 32, 3) := by decide +kernel
theorem dX0_added_20 : decode cX0_added 20 = .ok (.iload_n 1, 1) := by decide +kernel
theorem dX0_added_21 : decode cX0_added 21 = .ok (.iastore, 1) := by decide +kernel
theorem dX0_added_22 : decode cX0_added 22 = .ok (.aload_n 0, 1) := by decide +kernel
theorem dX0_added_23 : decode cX0_added 23 = .ok (.dup, 1) := by decide +kernel
theorem dX0_added_24 : decode cX0_added 24 = .ok (.getfield 32, 3) := by decide +kernel
theorem dX0_added_27 : decode cX0_added 27 = .ok (.iconst 1, 1) := by decide +kernel
theorem dX0_added_28 : decode cX0_added 28 = .ok (.iadd, 1) := by decide +kernel
theorem dX0_added_29 : decode cX0_added 29 = .ok (.putfield 32, 3) := by decide +kernel
theorem dX0_added_32 : decode cX0_added 32 = .ok (.aload_n 0, 1) := by decide +kernel
theorem dX0_added_33 : decode cX0_added 33 = .ok (.getfield 32, 3) := by decide +kernel
theorem dX0_added_36 : decode cX0_added 36 = .ok (.iconst 1, 1) := by decide +kernel
theorem dX0_added_37 : decode cX0_added 37 = .ok (.isub, 1) := by decide +kernel
theorem dX0_added_38 : decode cX0_added 38 = .ok (.ireturn, 1) := by decide +kernel
theorem dX0_addedHole_0 : decode cX0_addedHole 0 = .ok (.aload_n 0, 1) := by decide +kernel
theorem dX0_addedHole_1 : decode cX0_addedHole 1 = .ok (.iload_n 1, 1) := by decide +kernel
theorem dX0_addedHole_2 : decode cX0_addedHole 2 = .ok (.invokevirtual 42, 3) := by decide +kernel
theorem dX0_addedHole_5 : decode cX0_addedHole 5 = .ok (.istore 4, 2) := by decide +kernel
theorem dX0_addedHole_7 : decode cX0_addedHole 7 = .ok (.iload 4, 2) := by decide +kernel
theorem dX0_addedHole_9 : decode cX0_addedHole 9 = .ok (.ifCond .lt 29, 3) := by decide +kernel
theorem dX0_addedHole_12 : decode cX0_addedHole 12 = .ok (.aload_n 0, 1) := by decide +kernel
theorem dX0_addedHole_13 : decode cX0_addedHole 13 = .ok (.getfield 17, 3) := by decide +kernel
theorem dX0_addedHole_16 : decode cX0_addedHole 16 = .ok (.iload 4, 2) := by decide +kernel
theorem dX0_addedHole_18 : decode cX0_addedHole 18 = .ok (.new 15, 3) := by decide +kernel
theorem dX0_addedHole_21 : decode cX0_addedHole 21 = .ok (.dup, 1) := by decide +kernel
theorem dX0_addedHole_22 : decode cX0_addedHole 22 = .ok (.iload_n 2, 1) := by decide +kernel
theorem dX0_addedHole_23 : decode cX0_addedHole 23 = .ok (.iload_n 3, 1) := by decide +kernel
theorem dX0_addedHole_24 : decode cX0_addedHole 24 = .ok (.invokespecial 45, 3) := by decide +kernel
theorem dX0_addedHole_27 : decode cX0_addedHole 27 = .ok (.aastore, 1) := by decide +kernel
theorem dX0_addedHole_28 : decode cX0_addedHole 28 = .ok (.aload_n 0, 1) := by decide +kernel
theorem dX0_addedHole_29 : decode cX0_addedHole 29 = .ok (.dup, 1) := by decide +kernel
theorem dX0_addedHole_30 : decode cX0_addedHole 30 = .ok (.getfield 48, 3) := by decide +kernel
theorem dX0_addedHole_33 : decode cX0_addedHole 33 = .ok (.iconst 1, 1) := by decide +kernel
theorem dX0_addedHole_34 : decode cX0_addedHole 34 = .ok (.iadd, 1) := by decide +kernel
theorem dX0_addedHole_35 : decode cX0_addedHole 35 = .ok (.putfield 48, 3) := by decide +kernel
theorem dX0_addedHole_38 : decode cX0_addedHole 38 = .ok (.iload 4, 2) := by decide +kernel
theorem dX0_addedHole_40 : decode cX0_addedHole 40 = .ok (.ireturn, 1) := by decide +kernel
theorem dX0_addedRefuge_0 : decode cX0_addedRefuge 0 = .ok (.aload_n 0, 1) := by decide +kernel
theorem dX0_addedRefuge_1 : decode cX0_addedRefuge 1 = .ok (.bipush 6, 2) := by decide +kernel
theorem dX0_addedRefuge_3 : decode cX0_addedRefuge 3 = .ok (.invokevirtual 42, 3) := by decide +kernel
theorem dX0_addedRefuge_6 : decode cX0_addedRefuge 6 = .ok (.istore 4, 2) := by decide +kernel
theorem dX0_addedRefuge_8 : decode cX0_addedRefuge 8 = .ok (.iload 4, 2) := by decide +kernel
theorem dX0_addedRefuge_10 : decode cX0_addedRefuge 10 = .ok (.ifCond .lt 24, 3) := by decide +kernel
theorem dX0_addedRefuge_13 : decode cX0_addedRefuge 13 = .ok (.aload_n 0, 1) := by decide +kernel
theorem dX0_addedRefuge_14 : decode cX0_addedRefuge 14 = .ok (.iload 4, 2) := by decide +kernel
theorem dX0_addedRefuge_16 : decode cX0_addedRefuge 16 = .ok (.putfield 21, 3) := by decide +kernel
theorem dX0_addedRefuge_19 : decode cX0_addedRefuge 19 = .ok (.aload_n 0, 1) := by decide +kernel
theorem dX0_addedRefuge_20 : decode cX0_addedRefuge 20 = .ok (.iload_n 1, 1) := by decide +kernel
theorem dX0_addedRefuge_21 : decode cX0_addedRefuge 21 = .ok (.putfield 51, 3) := by decide +kernel
theorem dX0_addedRefuge_24 : decode cX0_addedRefuge 24 = .ok (.aload_n 0, 1) := by decide +kernel
theorem dX0_addedRefuge_25 : decode cX0_addedRefuge 25 = .ok (.iload_n 2, 1) := by decide +kernel
theorem dX0_addedRefuge_26 : decode cX0_addedRefuge 26 = .ok (.putfield 54, 3) := by decide +kernel
theorem dX0_addedRefuge_29 : decode cX0_addedRefuge 29 = .ok (.aload_n 0, 1) := by decide +kernel
theorem dX0_addedRefuge_30 : decode cX0_addedRefuge 30 = .ok (.iload_n 3, 1) := by decide +kernel
theorem dX0_addedRefuge_31 : decode cX0_addedRefuge 31 = .ok (.putfield 57, 3) := by decide +kernel
theorem dX0_addedRefuge_34 : decode cX0_addedRefuge 34 = .ok (.iload 4, 2) := by decide +kernel
theorem dX0_addedRefuge_36 : decode cX0_addedRefuge 36 = .ok (.ireturn, 1) := by decide +kernel
theorem dX0_isRefuge_0 : decode cX0_isRefuge 0 = .ok (.aload_n 0, 1) := by decide +kernel
theorem dX0_isRefuge_1 : decode cX0_isRefuge 1 = .ok (.getfield 21, 3) := by decide +kernel
theorem dX0_isRefuge_4 : decode cX0_isRefuge 4 = .ok (.ifCond .lt 31, 3) := by decide +kernel
theorem dX0_isRefuge_7 : decode cX0_isRefuge 7 = .ok (.iload_n 2, 1) := by decide +kernel
theorem dX0_isRefuge_8 : decode cX0_isRefuge 8 = .ok (.aload_n 0, 1) := by decide +kernel
theorem dX0_isRefuge_9 : decode cX0_isRefuge 9 = .ok (.getfield 57, 3) := by decide +kernel
theorem dX0_isRefuge_12 : decode cX0_isRefuge 12 = .ok (.if_icmp .ne 23, 3) := by decide +kernel
theorem dX0_isRefuge_15 : decode cX0_isRefuge 15 = .ok (.iload_n 1, 1) := by decide +kernel
theorem dX0_isRefuge_16 : decode cX0_isRefuge 16 = .ok (.aload_n 0, 1) := by decide +kernel
theorem dX0_isRefuge_17 : decode cX0_isRefuge 17 = .ok (.getfield 51, 3) := by decide +kernel
theorem dX0_isRefuge_20 : decode cX0_isRefuge 20 = .ok (.if_icmp .lt 15, 3) := by decide +kernel
theorem dX0_isRefuge_23 : decode cX0_isRefuge 23 = .ok (.iload_n 1, 1) := by decide +kernel
theorem dX0_isRefuge_24 : decode cX0_isRefuge 24 = .ok (.aload_n 0, 1) := by decide +kernel
theorem dX0_isRefuge_25 : decode cX0_isRefuge 25 = .ok (.getfield 54, 3) := by decide +kernel
theorem dX0_isRefuge_28 : decode cX0_isRefuge 28 = .ok (.if_icmp .gt 7, 3) := by decide +kernel
theorem dX0_isRefuge_31 : decode cX0_isRefuge 31 = .ok (.iconst 1, 1) := by decide +kernel
theorem dX0_isRefuge_32 : decode cX0_isRefuge 32 = .ok (.goto 4, 3) := by decide +kernel
theorem dX0_isRefuge_35 : decode cX0_isRefuge 35 = .ok (.iconst 0, 1) := by decide +kernel
theorem dX0_isRefuge_36 : decode cX0_isRefuge 36 = .ok (.ireturn, 1) := by decide +kernel
theorem dX0_ofRefuge_0 : decode cX0_ofRefuge 0 = .ok (.iload_n 1, 1) := by decide +kernel
theorem dX0_ofRefuge_1 : decode cX0_ofRefuge 1 = .ok (.tableswitch 51 1 4 #[31, 36, 41, 46], 31) := by decide +kernel
theorem dX0_ofRefuge_32 : decode cX0_ofRefuge 32 = .ok (.aload_n 0, 1) := by decide +kernel
theorem dX0_ofRefuge_33 : decode cX0_ofRefuge 33 = .ok (.getfield 51, 3) := by decide +kernel
theorem dX0_ofRefuge_36 : decode cX0_ofRefuge 36 = .ok (.ireturn, 1) := by decide +kernel
theorem dX0_ofRefuge_37 : decode cX0_ofRefuge 37 = .ok (.aload_n 0, 1) := by decide +kernel
theorem dX0_ofRefuge_38 : decode cX0_ofRefuge 38 = .ok (.getfield 54, 3) := by decide +kernel
theorem dX0_ofRefuge_41 : decode cX0_ofRefuge 41 = .ok (.ireturn, 1) := by decide +kernel
theorem dX0_ofRefuge_42 : decode cX0_ofRefuge 42 = .ok (.aload_n 0, 1) := by decide +kernel
theorem dX0_ofRefuge_43 : decode cX0_ofRefuge 43 = .ok (.getfield 57, 3) := by decide +kernel
theorem dX0_ofRefuge_46 : decode cX0_ofRefuge 46 = .ok (.ireturn, 1) := by decide +kernel
theorem dX0_ofRefuge_47 : decode cX0_ofRefuge 47 = .ok (.aload_n 0, 1) := by decide +kernel
theorem dX0_ofRefuge_48 : decode cX0_ofRefuge 48 = .ok (.getfield 60, 3) := by decide +kernel
theorem dX0_ofRefuge_51 : decode cX0_ofRefuge 51 = .ok (.ireturn, 1) := by decide +kernel
theorem dX0_ofRefuge_52 : decode cX0_ofRefuge 52 = .ok (.ldc 63, 2) := by decide +kernel
theorem dX0_ofRefuge_54 : decode cX0_ofRefuge 54 = .ok (.ireturn, 1) := by decide +kernel
theorem dX0_acted_0 : decode cX0_acted 0 = .ok (.aload_n 0, 1) := by decide +kernel
theorem dX0_acted_1 : decode cX0_acted 1 = .ok (.iconst 0, 1) := by decide +kernel
theorem dX0_acted_2 : decode cX0_acted 2 = .ok (.putfield 64, 3) := by decide +kernel
theorem dX0_acted_5 : decode cX0_acted 5 = .ok (.aload_n 0, 1) := by decide +kernel
theorem dX0_acted_6 : decode cX0_acted 6 = .ok (.iload_n 1, 1) := by decide +kernel
theorem dX0_acted_7 : decode cX0_acted 7 = .ok (.invokevirtual 35, 3) := by decide +kernel
theorem dX0_acted_10 : decode cX0_acted 10 = .ok (.istore 4, 2) := by decide +kernel
theorem dX0_acted_12 : decode cX0_acted 12 = .ok (.iload 4, 2) := by decide +kernel
theorem dX0_acted_14 : decode cX0_acted 14 = .ok (.ifCond .ge 5, 3) := by decide +kernel
theorem dX0_acted_17 : decode cX0_acted 17 = .ok (.iconst 0, 1) := by decide +kernel
theorem dX0_acted_18 : decode cX0_acted 18 = .ok (.ireturn, 1) := by decide +kernel
theorem dX0_acted_19 : decode cX0_acted 19 = .ok (.iload_n 2, 1) := by decide +kernel
theorem dX0_acted_20 : decode cX0_acted 20 = .ok (.tableswitch 72 0 3 #[32, 42, 52, 62], 32) := by decide +kernel
theorem dX0_acted_52 : decode cX0_acted 52 = .ok (.aload_n 0, 1) := by decide +kernel
theorem dX0_acted_53 : decode cX0_acted 53 = .ok (.iload 4, 2) := by decide +kernel
theorem dX0_acted_55 : decode cX0_acted 55 = .ok (.iload_n 1, 1) := by decide +kernel
theorem dX0_acted_56 : decode cX0_acted 56 = .ok (.iload_n 3, 1) := by decide +kernel
theorem dX0_acted_57 : decode cX0_acted 57 = .ok (.iconst 0, 1) := by decide +kernel
theorem dX0_acted_58 : decode cX0_acted 58 = .ok (.invokevirtual 67, 3) := by decide +kernel
theorem dX0_acted_61 : decode cX0_acted 61 = .ok (.ireturn, 1) := by decide +kernel
theorem dX0_acted_62 : decode cX0_acted 62 = .ok (.aload_n 0, 1) := by decide +kernel
theorem dX0_acted_63 : decode cX0_acted 63 = .ok (.iload 4, 2) := by decide +kernel
theorem dX0_acted_65 : decode cX0_acted 65 = .ok (.iload_n 1, 1) := by decide +kernel
theorem dX0_acted_66 : decode cX0_acted 66 = .ok (.iload_n 3, 1) := by decide +kernel
theorem dX0_acted_67 : decode cX0_acted 67 = .ok (.iconst 0, 1) := by decide +kernel
theorem dX0_acted_68 : decode cX0_acted 68 = .ok (.invokevirtual 71, 3) := by decide +kernel
theorem dX0_acted_71 : decode cX0_acted 71 = .ok (.ireturn, 1) := by decide +kernel
theorem dX0_acted_72 : decode cX0_acted 72 = .ok (.aload_n 0, 1) := by decide +kernel
theorem dX0_acted_73 : decode cX0_acted 73 = .ok (.iload 4, 2) := by decide +kernel
theorem dX0_acted_75 : decode cX0_acted 75 = .ok (.iload_n 1, 1) := by decide +kernel
theorem dX0_acted_76 : decode cX0_acted 76 = .ok (.iload_n 3, 1) := by decide +kernel
theorem dX0_acted_77 : decode cX0_acted 77 = .ok (.iconst 0, 1) := by decide +kernel
theorem dX0_acted_78 : decode cX0_acted 78 = .ok (.invokevirtual 74, 3) := by decide +kernel
theorem dX0_acted_81 : decode cX0_acted 81 = .ok (.ireturn, 1) := by decide +kernel
theorem dX0_acted_82 : decode cX0_acted 82 = .ok (.aload_n 0, 1) := by decide +kernel
theorem dX0_acted_83 : decode cX0_acted 83 = .ok (.iload 4, 2) := by decide +kernel
theorem dX0_acted_85 : decode cX0_acted 85 = .ok (.iload_n 1, 1) := by decide +kernel
theorem dX0_acted_86 : decode cX0_acted 86 = .ok (.iload_n 3, 1) := by decide +kernel
theorem dX0_acted_87 : decode cX0_acted 87 = .ok (.iconst 0, 1) := by decide +kernel
theorem dX0_acted_88 : decode cX0_acted 88 = .ok (.invokevirtual 77, 3) := by decide +kernel
theorem dX0_acted_91 : decode cX0_acted 91 = .ok (.ireturn, 1) := by decide +kernel
theorem dX0_acted_92 : decode cX0_acted 92 = .ok (.iconst 0, 1) := by decide +kernel
theorem dX0_acted_93 : decode cX0_acted 93 = .ok (.ireturn, 1) := by decide +kernel
theorem dX0_runs_0 : decode cX0_runs 0 = .ok (.aload_n 0, 1) := by decide +kernel
theorem dX0_runs_1 : decode cX0_runs 1 = .ok (.getfield 64, 3) := by decide +kernel
theorem dX0_runs_4 : decode cX0_runs 4 = .ok (.bipush 24, 2) := by decide +kernel
theorem dX0_runs_6 : decode cX0_runs 6 = .ok (.if_icmp .ge 13, 3) := by decide +kernel
theorem dX0_runs_9 : decode cX0_runs 9 = .ok (.aload_n 0, 1) := by decide +kernel
theorem dX0_runs_10 : decode cX0_runs 10 = .ok (.getfield 25, 3) := by decide +kernel
theorem dX0_runs_13 : decode cX0_runs 13 = .ok (.aload_n 0, 1) := by decide +kernel
theorem dX0_runs_14 : decode cX0_runs 14 = .ok (.getfield 64, 3) := by decide +kernel
theorem dX0_runs_17 : decode cX0_runs 17 = .ok (.iload_n 1, 1) := by decide +kernel
theorem dX0_runs_18 : decode cX0_runs 18 = .ok (.iastore, 1) := by decide +kernel
theorem dX0_runs_19 : decode cX0_runs 19 = .ok (.aload_n 0, 1) := by decide +kernel
theorem dX0_runs_20 : decode cX0_runs 20 = .ok (.dup, 1) := by decide +kernel
theorem dX0_runs_21 : decode cX0_runs 21 = .ok (.getfield 64, 3) := by decide +kernel
theorem dX0_runs_24 : decode cX0_runs 24 = .ok (.iconst 1, 1) := by decide +kernel
theorem dX0_runs_25 : decode cX0_runs 25 = .ok (.iadd, 1) := by decide +kernel
theorem dX0_runs_26 : decode cX0_runs 26 = .ok (.putfield 64, 3) := by decide +kernel
theorem dX0_runs_29 : decode cX0_runs 29 = .ok (.return_, 1) := by decide +kernel
theorem dX0_boresFrom_0 : decode cX0_boresFrom 0 = .ok (.iload 4, 2) := by decide +kernel
theorem dX0_boresFrom_2 : decode cX0_boresFrom 2 = .ok (.bipush 40, 2) := by decide +kernel
theorem dX0_boresFrom_4 : decode cX0_boresFrom 4 = .ok (.if_icmp .le 5, 3) := by decide +kernel
theorem dX0_boresFrom_7 : decode cX0_boresFrom 7 = .ok (.iconst 0, 1) := by decide +kernel
theorem dX0_boresFrom_8 : decode cX0_boresFrom 8 = .ok (.ireturn, 1) := by decide +kernel
theorem dX0_boresFrom_9 : decode cX0_boresFrom 9 = .ok (.iload_n 1, 1) := by decide +kernel
theorem dX0_boresFrom_10 : decode cX0_boresFrom 10 = .ok (.tableswitch 99 1 6 #[79, 79, 79, 59, 38, 79], 38) := by decide +kernel
theorem dX0_boresFrom_48 : decode cX0_boresFrom 48 = .ok (.aload_n 0, 1) := by decide +kernel
theorem dX0_boresFrom_49 : decode cX0_boresFrom 49 = .ok (.bipush 61, 2) := by decide +kernel
theorem dX0_boresFrom_51 : decode cX0_boresFrom 51 = .ok (.invokevirtual 80, 3) := by decide +kernel
theorem dX0_boresFrom_54 : decode cX0_boresFrom 54 = .ok (.aload_n 0, 1) := by decide +kernel
theorem dX0_boresFrom_55 : decode cX0_boresFrom 55 = .ok (.iconst 4, 1) := by decide +kernel
theorem dX0_boresFrom_56 : decode cX0_boresFrom 56 = .ok (.iload_n 2, 1) := by decide +kernel
theorem dX0_boresFrom_57 : decode cX0_boresFrom 57 = .ok (.iload_n 3, 1) := by decide +kernel
theorem dX0_boresFrom_58 : decode cX0_boresFrom 58 = .ok (.iload 4, 2) := by decide +kernel
theorem dX0_boresFrom_60 : decode cX0_boresFrom 60 = .ok (.iconst 1, 1) := by decide +kernel
theorem dX0_boresFrom_61 : decode cX0_boresFrom 61 = .ok (.iadd, 1) := by decide +kernel
theorem dX0_boresFrom_62 : decode cX0_boresFrom 62 = .ok (.invokevirtual 67, 3) := by decide +kernel
theorem dX0_boresFrom_65 : decode cX0_boresFrom 65 = .ok (.bipush 7, 2) := by decide +kernel
theorem dX0_boresFrom_67 : decode cX0_boresFrom 67 = .ok (.ixor, 1) := by decide +kernel
theorem dX0_boresFrom_68 : decode cX0_boresFrom 68 = .ok (.ireturn, 1) := by decide +kernel
theorem dX0_boresFrom_69 : decode cX0_boresFrom 69 = .ok (.aload_n 0, 1) := by decide +kernel
theorem dX0_boresFrom_70 : decode cX0_boresFrom 70 = .ok (.bipush 50, 2) := by decide +kernel
theorem dX0_boresFrom_72 : decode cX0_boresFrom 72 = .ok (.invokevirtual 80, 3) := by decide +kernel
theorem dX0_boresFrom_75 : decode cX0_boresFrom 75 = .ok (.aload_n 0, 1) := by decide +kernel
theorem dX0_boresFrom_76 : decode cX0_boresFrom 76 = .ok (.iconst 2, 1) := by decide +kernel
theorem dX0_boresFrom_77 : decode cX0_boresFrom 77 = .ok (.iload_n 2, 1) := by decide +kernel
theorem dX0_boresFrom_78 : decode cX0_boresFrom 78 = .ok (.iload_n 3, 1) := by decide +kernel
theorem dX0_boresFrom_79 : decode cX0_boresFrom 79 = .ok (.iconst 1, 1) := by decide +kernel
theorem dX0_boresFrom_80 : decode cX0_boresFrom 80 = .ok (.iadd, 1) := by decide +kernel
theorem dX0_boresFrom_81 : decode cX0_boresFrom 81 = .ok (.iload 4, 2) := by decide +kernel
theorem dX0_boresFrom_83 : decode cX0_boresFrom 83 = .ok (.iconst 1, 1) := by decide +kernel
theorem dX0_boresFrom_84 : decode cX0_boresFrom 84 = .ok (.iadd, 1) := by decide +kernel
theorem dX0_boresFrom_85 : decode cX0_boresFrom 85 = .ok (.invokevirtual 67, 3) := by decide +kernel
theorem dX0_boresFrom_88 : decode cX0_boresFrom 88 = .ok (.ireturn, 1) := by decide +kernel
theorem dX0_boresFrom_89 : decode cX0_boresFrom 89 = .ok (.aload_n 0, 1) := by decide +kernel
theorem dX0_boresFrom_90 : decode cX0_boresFrom 90 = .ok (.bipush 20, 2) := by decide +kernel
theorem dX0_boresFrom_92 : decode cX0_boresFrom 92 = .ok (.invokevirtual 80, 3) := by decide +kernel
theorem dX0_boresFrom_95 : decode cX0_boresFrom 95 = .ok (.aload_n 0, 1) := by decide +kernel
theorem dX0_boresFrom_96 : decode cX0_boresFrom 96 = .ok (.iconst 0, 1) := by decide +kernel
theorem dX0_boresFrom_97 : decode cX0_boresFrom 97 = .ok (.iload_n 2, 1) := by decide +kernel
theorem dX0_boresFrom_98 : decode cX0_boresFrom 98 = .ok (.iload_n 3, 1) := by decide +kernel
theorem dX0_boresFrom_99 : decode cX0_boresFrom 99 = .ok (.iload 4, 2) := by decide +kernel
theorem dX0_boresFrom_101 : decode cX0_boresFrom 101 = .ok (.iconst 1, 1) := by decide +kernel
theorem dX0_boresFrom_102 : decode cX0_boresFrom 102 = .ok (.iadd, 1) := by decide +kernel
theorem dX0_boresFrom_103 : decode cX0_boresFrom 103 = .ok (.invokevirtual 67, 3) := by decide +kernel
theorem dX0_boresFrom_106 : decode cX0_boresFrom 106 = .ok (.iconst 2, 1) := by decide +kernel
theorem dX0_boresFrom_107 : decode cX0_boresFrom 107 = .ok (.imul, 1) := by decide +kernel
theorem dX0_boresFrom_108 : decode cX0_boresFrom 108 = .ok (.ireturn, 1) := by decide +kernel
theorem dX0_boresFrom_109 : decode cX0_boresFrom 109 = .ok (.aload_n 0, 1) := by decide +kernel
theorem dX0_boresFrom_110 : decode cX0_boresFrom 110 = .ok (.iconst 1, 1) := by decide +kernel
theorem dX0_boresFrom_111 : decode cX0_boresFrom 111 = .ok (.invokevirtual 80, 3) := by decide +kernel
theorem dX0_boresFrom_114 : decode cX0_boresFrom 114 = .ok (.iload_n 3, 1) := by decide +kernel
theorem dX0_boresFrom_115 : decode cX0_boresFrom 115 = .ok (.iload_n 2, 1) := by decide +kernel
theorem dX0_boresFrom_116 : decode cX0_boresFrom 116 = .ok (.iadd, 1) := by decide +kernel
theorem dX0_boresFrom_117 : decode cX0_boresFrom 117 = .ok (.ireturn, 1) := by decide +kernel
theorem dX0_carriesFrom_0 : decode cX0_carriesFrom 0 = .ok (.iload 4, 2) := by decide +kernel
theorem dX0_carriesFrom_2 : decode cX0_carriesFrom 2 = .ok (.bipush 40, 2) := by decide +kernel
theorem dX0_carriesFrom_4 : decode cX0_carriesFrom 4 = .ok (.if_icmp .le 5, 3) := by decide +kernel
theorem dX0_carriesFrom_7 : decode cX0_carriesFrom 7 = .ok (.iconst 0, 1) := by decide +kernel
theorem dX0_carriesFrom_8 : decode cX0_carriesFrom 8 = .ok (.ireturn, 1) := by decide +kernel
theorem dX0_carriesFrom_9 : decode cX0_carriesFrom 9 = .ok (.iload_n 1, 1) := by decide +kernel
theorem dX0_carriesFrom_10 : decode cX0_carriesFrom 10 = .ok (.tableswitch 86 2 7 #[38, 38, 38, 38, 86, 62], 38) := by decide +kernel
theorem dX0_carriesFrom_48 : decode cX0_carriesFrom 48 = .ok (.aload_n 0, 1) := by decide +kernel
theorem dX0_carriesFrom_49 : decode cX0_carriesFrom 49 = .ok (.bipush 30, 2) := by decide +kernel
theorem dX0_carriesFrom_51 : decode cX0_carriesFrom 51 = .ok (.invokevirtual 80, 3) := by decide +kernel
theorem dX0_carriesFrom_54 : decode cX0_carriesFrom 54 = .ok (.aload_n 0, 1) := by decide +kernel
theorem dX0_carriesFrom_55 : decode cX0_carriesFrom 55 = .ok (.iconst 1, 1) := by decide +kernel
theorem dX0_carriesFrom_56 : decode cX0_carriesFrom 56 = .ok (.iload_n 2, 1) := by decide +kernel
theorem dX0_carriesFrom_57 : decode cX0_carriesFrom 57 = .ok (.iload_n 3, 1) := by decide +kernel
theorem dX0_carriesFrom_58 : decode cX0_carriesFrom 58 = .ok (.iload 4, 2) := by decide +kernel
theorem dX0_carriesFrom_60 : decode cX0_carriesFrom 60 = .ok (.iconst 1, 1) := by decide +kernel
theorem dX0_carriesFrom_61 : decode cX0_carriesFrom 61 = .ok (.iadd, 1) := by decide +kernel
theorem dX0_carriesFrom_62 : decode cX0_carriesFrom 62 = .ok (.invokevirtual 71, 3) := by decide +kernel
theorem dX0_carriesFrom_65 : decode cX0_carriesFrom 65 = .ok (.aload_n 0, 1) := by decide +kernel
theorem dX0_carriesFrom_66 : decode cX0_carriesFrom 66 = .ok (.iload_n 2, 1) := by decide +kernel
theorem dX0_carriesFrom_67 : decode cX0_carriesFrom 67 = .ok (.invokevirtual 84, 3) := by decide +kernel
theorem dX0_carriesFrom_70 : decode cX0_carriesFrom 70 = .ok (.iadd, 1) := by decide +kernel
theorem dX0_carriesFrom_71 : decode cX0_carriesFrom 71 = .ok (.ireturn, 1) := by decide +kernel
theorem dX0_carriesFrom_72 : decode cX0_carriesFrom 72 = .ok (.aload_n 0, 1) := by decide +kernel
theorem dX0_carriesFrom_73 : decode cX0_carriesFrom 73 = .ok (.bipush 80, 2) := by decide +kernel
theorem dX0_carriesFrom_75 : decode cX0_carriesFrom 75 = .ok (.invokevirtual 80, 3) := by decide +kernel
theorem dX0_carriesFrom_78 : decode cX0_carriesFrom 78 = .ok (.aload_n 0, 1) := by decide +kernel
theorem dX0_carriesFrom_79 : decode cX0_carriesFrom 79 = .ok (.iconst 0, 1) := by decide +kernel
theorem dX0_carriesFrom_80 : decode cX0_carriesFrom 80 = .ok (.iload_n 2, 1) := by decide +kernel
theorem dX0_carriesFrom_81 : decode cX0_carriesFrom 81 = .ok (.iload_n 3, 1) := by decide +kernel
theorem dX0_carriesFrom_82 : decode cX0_carriesFrom 82 = .ok (.iload 4, 2) := by decide +kernel
theorem dX0_carriesFrom_84 : decode cX0_carriesFrom 84 = .ok (.iconst 1, 1) := by decide +kernel
theorem dX0_carriesFrom_85 : decode cX0_carriesFrom 85 = .ok (.iadd, 1) := by decide +kernel
theorem dX0_carriesFrom_86 : decode cX0_carriesFrom 86 = .ok (.invokevirtual 71, 3) := by decide +kernel
theorem dX0_carriesFrom_89 : decode cX0_carriesFrom 89 = .ok (.aload_n 0, 1) := by decide +kernel
theorem dX0_carriesFrom_90 : decode cX0_carriesFrom 90 = .ok (.iload_n 2, 1) := by decide +kernel
theorem dX0_carriesFrom_91 : decode cX0_carriesFrom 91 = .ok (.invokevirtual 87, 3) := by decide +kernel
theorem dX0_carriesFrom_94 : decode cX0_carriesFrom 94 = .ok (.isub, 1) := by decide +kernel
theorem dX0_carriesFrom_95 : decode cX0_carriesFrom 95 = .ok (.ireturn, 1) := by decide +kernel
theorem dX0_carriesFrom_96 : decode cX0_carriesFrom 96 = .ok (.aload_n 0, 1) := by decide +kernel
theorem dX0_carriesFrom_97 : decode cX0_carriesFrom 97 = .ok (.bipush 10, 2) := by decide +kernel
theorem dX0_carriesFrom_99 : decode cX0_carriesFrom 99 = .ok (.invokevirtual 80, 3) := by decide +kernel
theorem dX0_carriesFrom_102 : decode cX0_carriesFrom 102 = .ok (.aload_n 0, 1) := by decide +kernel
theorem dX0_carriesFrom_103 : decode cX0_carriesFrom 103 = .ok (.aload_n 0, 1) := by decide +kernel
theorem dX0_carriesFrom_104 : decode cX0_carriesFrom 104 = .ok (.iload_n 2, 1) := by decide +kernel
theorem dX0_carriesFrom_105 : decode cX0_carriesFrom 105 = .ok (.invokevirtual 35, 3) := by decide +kernel
theorem dX0_carriesFrom_108 : decode cX0_carriesFrom 108 = .ok (.iload_n 2, 1) := by decide +kernel
theorem dX0_carriesFrom_109 : decode cX0_carriesFrom 109 = .ok (.iload_n 3, 1) := by decide +kernel
theorem dX0_carriesFrom_110 : decode cX0_carriesFrom 110 = .ok (.iload 4, 2) := by decide +kernel
theorem dX0_carriesFrom_112 : decode cX0_carriesFrom 112 = .ok (.iconst 1, 1) := by decide +kernel
theorem dX0_carriesFrom_113 : decode cX0_carriesFrom 113 = .ok (.iadd, 1) := by decide +kernel
theorem dX0_carriesFrom_114 : decode cX0_carriesFrom 114 = .ok (.invokevirtual 67, 3) := by decide +kernel
theorem dX0_carriesFrom_117 : decode cX0_carriesFrom 117 = .ok (.iconst 1, 1) := by decide +kernel
theorem dX0_carriesFrom_118 : decode cX0_carriesFrom 118 = .ok (.isub, 1) := by decide +kernel
theorem dX0_carriesFrom_119 : decode cX0_carriesFrom 119 = .ok (.ireturn, 1) := by decide +kernel
theorem dX0_holdsFrom_0 : decode cX0_holdsFrom 0 = .ok (.iload 4, 2) := by decide +kernel
theorem dX0_holdsFrom_2 : decode cX0_holdsFrom 2 = .ok (.bipush 40, 2) := by decide +kernel
theorem dX0_holdsFrom_4 : decode cX0_holdsFrom 4 = .ok (.if_icmp .le 5, 3) := by decide +kernel
theorem dX0_holdsFrom_7 : decode cX0_holdsFrom 7 = .ok (.iconst 0, 1) := by decide +kernel
theorem dX0_holdsFrom_8 : decode cX0_holdsFrom 8 = .ok (.ireturn, 1) := by decide +kernel
theorem dX0_holdsFrom_9 : decode cX0_holdsFrom 9 = .ok (.iload_n 1, 1) := by decide +kernel
theorem dX0_holdsFrom_10 : decode cX0_holdsFrom 10 = .ok (.tableswitch 121 3 6 #[30, 121, 68, 87], 30) := by decide +kernel
theorem dX0_holdsFrom_40 : decode cX0_holdsFrom 40 = .ok (.aload_n 0, 1) := by decide +kernel
theorem dX0_holdsFrom_41 : decode cX0_holdsFrom 41 = .ok (.bipush 40, 2) := by decide +kernel
theorem dX0_holdsFrom_43 : decode cX0_holdsFrom 43 = .ok (.invokevirtual 80, 3) := by decide +kernel
theorem dX0_holdsFrom_46 : decode cX0_holdsFrom 46 = .ok (.aload_n 0, 1) := by decide +kernel
theorem dX0_holdsFrom_47 : decode cX0_holdsFrom 47 = .ok (.iconst 2, 1) := by decide +kernel
theorem dX0_holdsFrom_48 : decode cX0_holdsFrom 48 = .ok (.iload_n 2, 1) := by decide +kernel
theorem dX0_holdsFrom_49 : decode cX0_holdsFrom 49 = .ok (.iload_n 3, 1) := by decide +kernel
theorem dX0_holdsFrom_50 : decode cX0_holdsFrom 50 = .ok (.iload 4, 2) := by decide +kernel
theorem dX0_holdsFrom_52 : decode cX0_holdsFrom 52 = .ok (.iconst 1, 1) := by decide +kernel
theorem dX0_holdsFrom_53 : decode cX0_holdsFrom 53 = .ok (.iadd, 1) := by decide +kernel
theorem dX0_holdsFrom_54 : decode cX0_holdsFrom 54 = .ok (.invokevirtual 74, 3) := by decide +kernel
theorem dX0_holdsFrom_57 : decode cX0_holdsFrom 57 = .ok (.istore 5, 2) := by decide +kernel
theorem dX0_holdsFrom_59 : decode cX0_holdsFrom 59 = .ok (.iload 5, 2) := by decide +kernel
theorem dX0_holdsFrom_61 : decode cX0_holdsFrom 61 = .ok (.aload_n 0, 1) := by decide +kernel
theorem dX0_holdsFrom_62 : decode cX0_holdsFrom 62 = .ok (.aload_n 0, 1) := by decide +kernel
theorem dX0_holdsFrom_63 : decode cX0_holdsFrom 63 = .ok (.iload_n 2, 1) := by decide +kernel
theorem dX0_holdsFrom_64 : decode cX0_holdsFrom 64 = .ok (.invokevirtual 35, 3) := by decide +kernel
theorem dX0_holdsFrom_67 : decode cX0_holdsFrom 67 = .ok (.iload_n 2, 1) := by decide +kernel
theorem dX0_holdsFrom_68 : decode cX0_holdsFrom 68 = .ok (.iconst 1, 1) := by decide +kernel
theorem dX0_holdsFrom_69 : decode cX0_holdsFrom 69 = .ok (.iload 4, 2) := by decide +kernel
theorem dX0_holdsFrom_71 : decode cX0_holdsFrom 71 = .ok (.iconst 1, 1) := by decide +kernel
theorem dX0_holdsFrom_72 : decode cX0_holdsFrom 72 = .ok (.iadd, 1) := by decide +kernel
theorem dX0_holdsFrom_73 : decode cX0_holdsFrom 73 = .ok (.invokevirtual 71, 3) := by decide +kernel
theorem dX0_holdsFrom_76 : decode cX0_holdsFrom 76 = .ok (.isub, 1) := by decide +kernel
theorem dX0_holdsFrom_77 : decode cX0_holdsFrom 77 = .ok (.ireturn, 1) := by decide +kernel
theorem dX0_holdsFrom_78 : decode cX0_holdsFrom 78 = .ok (.aload_n 0, 1) := by decide +kernel
theorem dX0_holdsFrom_79 : decode cX0_holdsFrom 79 = .ok (.bipush 60, 2) := by decide +kernel
theorem dX0_holdsFrom_81 : decode cX0_holdsFrom 81 = .ok (.invokevirtual 80, 3) := by decide +kernel
theorem dX0_holdsFrom_84 : decode cX0_holdsFrom 84 = .ok (.aload_n 0, 1) := by decide +kernel
theorem dX0_holdsFrom_85 : decode cX0_holdsFrom 85 = .ok (.iconst 4, 1) := by decide +kernel
theorem dX0_holdsFrom_86 : decode cX0_holdsFrom 86 = .ok (.iload_n 2, 1) := by decide +kernel
theorem dX0_holdsFrom_87 : decode cX0_holdsFrom 87 = .ok (.iload_n 3, 1) := by decide +kernel
theorem dX0_holdsFrom_88 : decode cX0_holdsFrom 88 = .ok (.iload 4, 2) := by decide +kernel
theorem dX0_holdsFrom_90 : decode cX0_holdsFrom 90 = .ok (.iconst 1, 1) := by decide +kernel
theorem dX0_holdsFrom_91 : decode cX0_holdsFrom 91 = .ok (.iadd, 1) := by decide +kernel
theorem dX0_holdsFrom_92 : decode cX0_holdsFrom 92 = .ok (.invokevirtual 74, 3) := by decide +kernel
theorem dX0_holdsFrom_95 : decode cX0_holdsFrom 95 = .ok (.ineg, 1) := by decide +kernel
theorem dX0_holdsFrom_96 : decode cX0_holdsFrom 96 = .ok (.ireturn, 1) := by decide +kernel
theorem dX0_holdsFrom_97 : decode cX0_holdsFrom 97 = .ok (.aload_n 0, 1) := by decide +kernel
theorem dX0_holdsFrom_98 : decode cX0_holdsFrom 98 = .ok (.bipush 70, 2) := by decide +kernel
theorem dX0_holdsFrom_100 : decode cX0_holdsFrom 100 = .ok (.invokevirtual 80, 3) := by decide +kernel
theorem dX0_holdsFrom_103 : decode cX0_holdsFrom 103 = .ok (.aload_n 0, 1) := by decide +kernel
theorem dX0_holdsFrom_104 : decode cX0_holdsFrom 104 = .ok (.iconst 1, 1) := by decide +kernel
theorem dX0_holdsFrom_105 : decode cX0_holdsFrom 105 = .ok (.iload_n 2, 1) := by decide +kernel
theorem dX0_holdsFrom_106 : decode cX0_holdsFrom 106 = .ok (.iload_n 3, 1) := by decide +kernel
theorem dX0_holdsFrom_107 : decode cX0_holdsFrom 107 = .ok (.iload 4, 2) := by decide +kernel
theorem dX0_holdsFrom_109 : decode cX0_holdsFrom 109 = .ok (.iconst 1, 1) := by decide +kernel
theorem dX0_holdsFrom_110 : decode cX0_holdsFrom 110 = .ok (.iadd, 1) := by decide +kernel
theorem dX0_holdsFrom_111 : decode cX0_holdsFrom 111 = .ok (.invokevirtual 74, 3) := by decide +kernel
theorem dX0_holdsFrom_114 : decode cX0_holdsFrom 114 = .ok (.istore 5, 2) := by decide +kernel
theorem dX0_holdsFrom_116 : decode cX0_holdsFrom 116 = .ok (.iload 5, 2) := by decide +kernel
theorem dX0_holdsFrom_118 : decode cX0_holdsFrom 118 = .ok (.aload_n 0, 1) := by decide +kernel
theorem dX0_holdsFrom_119 : decode cX0_holdsFrom 119 = .ok (.iconst 1, 1) := by decide +kernel
theorem dX0_holdsFrom_120 : decode cX0_holdsFrom 120 = .ok (.iload_n 2, 1) := by decide +kernel
theorem dX0_holdsFrom_121 : decode cX0_holdsFrom 121 = .ok (.iload_n 3, 1) := by decide +kernel
theorem dX0_holdsFrom_122 : decode cX0_holdsFrom 122 = .ok (.iload 4, 2) := by decide +kernel
theorem dX0_holdsFrom_124 : decode cX0_holdsFrom 124 = .ok (.iconst 1, 1) := by decide +kernel
theorem dX0_holdsFrom_125 : decode cX0_holdsFrom 125 = .ok (.iadd, 1) := by decide +kernel
theorem dX0_holdsFrom_126 : decode cX0_holdsFrom 126 = .ok (.invokevirtual 71, 3) := by decide +kernel
theorem dX0_holdsFrom_129 : decode cX0_holdsFrom 129 = .ok (.iadd, 1) := by decide +kernel
theorem dX0_holdsFrom_130 : decode cX0_holdsFrom 130 = .ok (.ireturn, 1) := by decide +kernel
theorem dX0_holdsFrom_131 : decode cX0_holdsFrom 131 = .ok (.aload_n 0, 1) := by decide +kernel
theorem dX0_holdsFrom_132 : decode cX0_holdsFrom 132 = .ok (.bipush 11, 2) := by decide +kernel
theorem dX0_holdsFrom_134 : decode cX0_holdsFrom 134 = .ok (.invokevirtual 80, 3) := by decide +kernel
theorem dX0_holdsFrom_137 : decode cX0_holdsFrom 137 = .ok (.iload_n 3, 1) := by decide +kernel
theorem dX0_holdsFrom_138 : decode cX0_holdsFrom 138 = .ok (.iload_n 2, 1) := by decide +kernel
theorem dX0_holdsFrom_139 : decode cX0_holdsFrom 139 = .ok (.ixor, 1) := by decide +kernel
theorem dX0_holdsFrom_140 : decode cX0_holdsFrom 140 = .ok (.ireturn, 1) := by decide +kernel
theorem dX0_tellsFrom_0 : decode cX0_tellsFrom 0 = .ok (.iload 4, 2) := by decide +kernel
theorem dX0_tellsFrom_2 : decode cX0_tellsFrom 2 = .ok (.bipush 40, 2) := by decide +kernel
theorem dX0_tellsFrom_4 : decode cX0_tellsFrom 4 = .ok (.if_icmp .le 5, 3) := by decide +kernel
theorem dX0_tellsFrom_7 : decode cX0_tellsFrom 7 = .ok (.iconst 0, 1) := by decide +kernel
theorem dX0_tellsFrom_8 : decode cX0_tellsFrom 8 = .ok (.ireturn, 1) := by decide +kernel
theorem dX0_tellsFrom_9 : decode cX0_tellsFrom 9 = .ok (.iload_n 1, 1) := by decide +kernel
theorem dX0_tellsFrom_10 : decode cX0_tellsFrom 10 = .ok (.lookupswitch 46 #[(4, 26), (5, 26)], 26) := by decide +kernel
theorem dX0_tellsFrom_36 : decode cX0_tellsFrom 36 = .ok (.aload_n 0, 1) := by decide +kernel
theorem dX0_tellsFrom_37 : decode cX0_tellsFrom 37 = .ok (.bipush 51, 2) := by decide +kernel
theorem dX0_tellsFrom_39 : decode cX0_tellsFrom 39 = .ok (.invokevirtual 80, 3) := by decide +kernel
theorem dX0_tellsFrom_42 : decode cX0_tellsFrom 42 = .ok (.aload_n 0, 1) := by decide +kernel
theorem dX0_tellsFrom_43 : decode cX0_tellsFrom 43 = .ok (.iconst 2, 1) := by decide +kernel
theorem dX0_tellsFrom_44 : decode cX0_tellsFrom 44 = .ok (.iload_n 2, 1) := by decide +kernel
theorem dX0_tellsFrom_45 : decode cX0_tellsFrom 45 = .ok (.iload_n 3, 1) := by decide +kernel
theorem dX0_tellsFrom_46 : decode cX0_tellsFrom 46 = .ok (.iload 4, 2) := by decide +kernel
theorem dX0_tellsFrom_48 : decode cX0_tellsFrom 48 = .ok (.iconst 1, 1) := by decide +kernel
theorem dX0_tellsFrom_49 : decode cX0_tellsFrom 49 = .ok (.iadd, 1) := by decide +kernel
theorem dX0_tellsFrom_50 : decode cX0_tellsFrom 50 = .ok (.invokevirtual 77, 3) := by decide +kernel
theorem dX0_tellsFrom_53 : decode cX0_tellsFrom 53 = .ok (.iconst 3, 1) := by decide +kernel
theorem dX0_tellsFrom_54 : decode cX0_tellsFrom 54 = .ok (.imul, 1) := by decide +kernel
theorem dX0_tellsFrom_55 : decode cX0_tellsFrom 55 = .ok (.ireturn, 1) := by decide +kernel
theorem dX0_tellsFrom_56 : decode cX0_tellsFrom 56 = .ok (.aload_n 0, 1) := by decide +kernel
theorem dX0_tellsFrom_57 : decode cX0_tellsFrom 57 = .ok (.iconst 2, 1) := by decide +kernel
theorem dX0_tellsFrom_58 : decode cX0_tellsFrom 58 = .ok (.invokevirtual 80, 3) := by decide +kernel
theorem dX0_tellsFrom_61 : decode cX0_tellsFrom 61 = .ok (.aload_n 0, 1) := by decide +kernel
theorem dX0_tellsFrom_62 : decode cX0_tellsFrom 62 = .ok (.aload_n 0, 1) := by decide +kernel
theorem dX0_tellsFrom_63 : decode cX0_tellsFrom 63 = .ok (.iload_n 2, 1) := by decide +kernel
theorem dX0_tellsFrom_64 : decode cX0_tellsFrom 64 = .ok (.invokevirtual 35, 3) := by decide +kernel
theorem dX0_tellsFrom_67 : decode cX0_tellsFrom 67 = .ok (.iload_n 2, 1) := by decide +kernel
theorem dX0_tellsFrom_68 : decode cX0_tellsFrom 68 = .ok (.iload_n 3, 1) := by decide +kernel
theorem dX0_tellsFrom_69 : decode cX0_tellsFrom 69 = .ok (.iload 4, 2) := by decide +kernel
theorem dX0_tellsFrom_71 : decode cX0_tellsFrom 71 = .ok (.iconst 1, 1) := by decide +kernel
theorem dX0_tellsFrom_72 : decode cX0_tellsFrom 72 = .ok (.iadd, 1) := by decide +kernel
theorem dX0_tellsFrom_73 : decode cX0_tellsFrom 73 = .ok (.invokevirtual 71, 3) := by decide +kernel
theorem dX0_tellsFrom_76 : decode cX0_tellsFrom 76 = .ok (.istore 5, 2) := by decide +kernel
theorem dX0_tellsFrom_78 : decode cX0_tellsFrom 78 = .ok (.iload 5, 2) := by decide +kernel
theorem dX0_tellsFrom_80 : decode cX0_tellsFrom 80 = .ok (.aload_n 0, 1) := by decide +kernel
theorem dX0_tellsFrom_81 : decode cX0_tellsFrom 81 = .ok (.aload_n 0, 1) := by decide +kernel
theorem dX0_tellsFrom_82 : decode cX0_tellsFrom 82 = .ok (.iload_n 2, 1) := by decide +kernel
theorem dX0_tellsFrom_83 : decode cX0_tellsFrom 83 = .ok (.invokevirtual 35, 3) := by decide +kernel
theorem dX0_tellsFrom_86 : decode cX0_tellsFrom 86 = .ok (.iload_n 2, 1) := by decide +kernel
theorem dX0_tellsFrom_87 : decode cX0_tellsFrom 87 = .ok (.iconst 1, 1) := by decide +kernel
theorem dX0_tellsFrom_88 : decode cX0_tellsFrom 88 = .ok (.iload 4, 2) := by decide +kernel
theorem dX0_tellsFrom_90 : decode cX0_tellsFrom 90 = .ok (.iconst 1, 1) := by decide +kernel
theorem dX0_tellsFrom_91 : decode cX0_tellsFrom 91 = .ok (.iadd, 1) := by decide +kernel
theorem dX0_tellsFrom_92 : decode cX0_tellsFrom 92 = .ok (.invokevirtual 74, 3) := by decide +kernel
theorem dX0_tellsFrom_95 : decode cX0_tellsFrom 95 = .ok (.iadd, 1) := by decide +kernel
theorem dX0_tellsFrom_96 : decode cX0_tellsFrom 96 = .ok (.ireturn, 1) := by decide +kernel
theorem dX0_widthOf_0 : decode cX0_widthOf 0 = .ok (.aload_n 0, 1) := by decide +kernel
theorem dX0_widthOf_1 : decode cX0_widthOf 1 = .ok (.iload_n 1, 1) := by decide +kernel
theorem dX0_widthOf_2 : decode cX0_widthOf 2 = .ok (.invokevirtual 90, 3) := by decide +kernel
theorem dX0_widthOf_5 : decode cX0_widthOf 5 = .ok (.astore_n 2, 1) := by decide +kernel
theorem dX0_widthOf_6 : decode cX0_widthOf 6 = .ok (.aload_n 2, 1) := by decide +kernel
theorem dX0_widthOf_7 : decode cX0_widthOf 7 = .ok (.ifnonnull 7, 3) := by decide +kernel
theorem dX0_widthOf_10 : decode cX0_widthOf 10 = .ok (.iconst 0, 1) := by decide +kernel
theorem dX0_widthOf_11 : decode cX0_widthOf 11 = .ok (.goto 7, 3) := by decide +kernel
theorem dX0_widthOf_14 : decode cX0_widthOf 14 = .ok (.aload_n 2, 1) := by decide +kernel
theorem dX0_widthOf_15 : decode cX0_widthOf 15 = .ok (.getfield 94, 3) := by decide +kernel
theorem dX0_widthOf_18 : decode cX0_widthOf 18 = .ok (.ireturn, 1) := by decide +kernel
theorem dX0_strengthOf_0 : decode cX0_strengthOf 0 = .ok (.aload_n 0, 1) := by decide +kernel
theorem dX0_strengthOf_1 : decode cX0_strengthOf 1 = .ok (.iload_n 1, 1) := by decide +kernel
theorem dX0_strengthOf_2 : decode cX0_strengthOf 2 = .ok (.invokevirtual 35, 3) := by decide +kernel
theorem dX0_strengthOf_5 : decode cX0_strengthOf 5 = .ok (.bipush 7, 2) := by decide +kernel
theorem dX0_strengthOf_7 : decode cX0_strengthOf 7 = .ok (.if_icmp .ne 15, 3) := by decide +kernel
theorem dX0_strengthOf_10 : decode cX0_strengthOf 10 = .ok (.aload_n 0, 1) := by decide +kernel
theorem dX0_strengthOf_11 : decode cX0_strengthOf 11 = .ok (.getfield 28, 3) := by decide +kernel
theorem dX0_strengthOf_14 : decode cX0_strengthOf 14 = .ok (.getfield 97, 3) := by decide +kernel
theorem dX0_strengthOf_17 : decode cX0_strengthOf 17 = .ok (.iload_n 1, 1) := by decide +kernel
theorem dX0_strengthOf_18 : decode cX0_strengthOf 18 = .ok (.iaload, 1) := by decide +kernel
theorem dX0_strengthOf_19 : decode cX0_strengthOf 19 = .ok (.goto 4, 3) := by decide +kernel
theorem dX0_strengthOf_22 : decode cX0_strengthOf 22 = .ok (.iconst 0, 1) := by decide +kernel
theorem dX0_strengthOf_23 : decode cX0_strengthOf 23 = .ok (.ireturn, 1) := by decide +kernel
