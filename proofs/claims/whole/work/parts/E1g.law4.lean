theorem dL_law__1922 : decode cL_law_ 1922 = .ok (.aload_n 3, 1) := by decide +kernel
theorem eL_law__1922 : zD KL_law_ 1922 (.aload_n 3) 1 1923 := ⟨dL_law__1922, rfl⟩
theorem dL_law__1923 : decode cL_law_ 1923 = .ok (.iconst 0, 1) := by decide +kernel
theorem eL_law__1923 : zD KL_law_ 1923 (.iconst 0) 1 1924 := ⟨dL_law__1923, rfl⟩
theorem dL_law__1924 : decode cL_law_ 1924 = .ok (.laload, 1) := by decide +kernel
theorem eL_law__1924 : zD KL_law_ 1924 (.laload) 1 1925 := ⟨dL_law__1924, rfl⟩
theorem dL_law__1925 : decode cL_law_ 1925 = .ok (.iload 6, 2) := by decide +kernel
theorem eL_law__1925 : zD KL_law_ 1925 (.iload 6) 2 1927 := ⟨dL_law__1925, rfl⟩
theorem dL_law__1927 : decode cL_law_ 1927 = .ok (.i2l, 1) := by decide +kernel
theorem eL_law__1927 : zD KL_law_ 1927 (.i2l) 1 1928 := ⟨dL_law__1927, rfl⟩
theorem dL_law__1928 : decode cL_law_ 1928 = .ok (.lcmp, 1) := by decide +kernel
theorem eL_law__1928 : zD KL_law_ 1928 (.lcmp) 1 1929 := ⟨dL_law__1928, rfl⟩
theorem dL_law__1929 : decode cL_law_ 1929 = .ok (.ifCond .eq 5, 3) := by decide +kernel
theorem eL_law__1929 : zD KL_law_ 1929 (.ifCond .eq 5) 3 1932 := ⟨dL_law__1929, rfl⟩
theorem dL_law__1932 : decode cL_law_ 1932 = .ok (.iconst 0, 1) := by decide +kernel
theorem eL_law__1932 : zD KL_law_ 1932 (.iconst 0) 1 1933 := ⟨dL_law__1932, rfl⟩
theorem dL_law__1933 : decode cL_law_ 1933 = .ok (.ireturn, 1) := by decide +kernel
theorem eL_law__1933 : zD KL_law_ 1933 (.ireturn) 1 1934 := ⟨dL_law__1933, rfl⟩
theorem dL_law__1934 : decode cL_law_ 1934 = .ok (.goto 1418, 3) := by decide +kernel
theorem eL_law__1934 : zD KL_law_ 1934 (.goto 1418) 3 1937 := ⟨dL_law__1934, rfl⟩
theorem dL_law__1937 : decode cL_law_ 1937 = .ok (.aload_n 1, 1) := by decide +kernel
theorem eL_law__1937 : zD KL_law_ 1937 (.aload_n 1) 1 1938 := ⟨dL_law__1937, rfl⟩
theorem dL_law__1938 : decode cL_law_ 1938 = .ok (.aload_n 0, 1) := by decide +kernel
theorem eL_law__1938 : zD KL_law_ 1938 (.aload_n 0) 1 1939 := ⟨dL_law__1938, rfl⟩
theorem dL_law__1939 : decode cL_law_ 1939 = .ok (.iload 4, 2) := by decide +kernel
theorem eL_law__1939 : zD KL_law_ 1939 (.iload 4) 2 1941 := ⟨dL_law__1939, rfl⟩
theorem dL_law__1941 : decode cL_law_ 1941 = .ok (.iconst 1, 1) := by decide +kernel
theorem eL_law__1941 : zD KL_law_ 1941 (.iconst 1) 1 1942 := ⟨dL_law__1941, rfl⟩
theorem dL_law__1942 : decode cL_law_ 1942 = .ok (.iadd, 1) := by decide +kernel
theorem eL_law__1942 : zD KL_law_ 1942 (.iadd) 1 1943 := ⟨dL_law__1942, rfl⟩
theorem dL_law__1943 : decode cL_law_ 1943 = .ok (.iaload, 1) := by decide +kernel
theorem eL_law__1943 : zD KL_law_ 1943 (.iaload) 1 1944 := ⟨dL_law__1943, rfl⟩
theorem dL_law__1944 : decode cL_law_ 1944 = .ok (.aload_n 0, 1) := by decide +kernel
theorem eL_law__1944 : zD KL_law_ 1944 (.aload_n 0) 1 1945 := ⟨dL_law__1944, rfl⟩
theorem dL_law__1945 : decode cL_law_ 1945 = .ok (.iload 4, 2) := by decide +kernel
theorem eL_law__1945 : zD KL_law_ 1945 (.iload 4) 2 1947 := ⟨dL_law__1945, rfl⟩
theorem dL_law__1947 : decode cL_law_ 1947 = .ok (.iconst 2, 1) := by decide +kernel
theorem eL_law__1947 : zD KL_law_ 1947 (.iconst 2) 1 1948 := ⟨dL_law__1947, rfl⟩
theorem dL_law__1948 : decode cL_law_ 1948 = .ok (.iadd, 1) := by decide +kernel
theorem eL_law__1948 : zD KL_law_ 1948 (.iadd) 1 1949 := ⟨dL_law__1948, rfl⟩
theorem dL_law__1949 : decode cL_law_ 1949 = .ok (.iaload, 1) := by decide +kernel
theorem eL_law__1949 : zD KL_law_ 1949 (.iaload) 1 1950 := ⟨dL_law__1949, rfl⟩
theorem dL_law__1950 : decode cL_law_ 1950 = .ok (.ifCond .eq 7, 3) := by decide +kernel
theorem eL_law__1950 : zD KL_law_ 1950 (.ifCond .eq 7) 3 1953 := ⟨dL_law__1950, rfl⟩
theorem dL_law__1953 : decode cL_law_ 1953 = .ok (.iconst 1, 1) := by decide +kernel
theorem eL_law__1953 : zD KL_law_ 1953 (.iconst 1) 1 1954 := ⟨dL_law__1953, rfl⟩
theorem dL_law__1954 : decode cL_law_ 1954 = .ok (.goto 4, 3) := by decide +kernel
theorem eL_law__1954 : zD KL_law_ 1954 (.goto 4) 3 1957 := ⟨dL_law__1954, rfl⟩
theorem dL_law__1957 : decode cL_law_ 1957 = .ok (.iconst 0, 1) := by decide +kernel
theorem eL_law__1957 : zD KL_law_ 1957 (.iconst 0) 1 1958 := ⟨dL_law__1957, rfl⟩
theorem dL_law__1958 : decode cL_law_ 1958 = .ok (.aload_n 3, 1) := by decide +kernel
theorem eL_law__1958 : zD KL_law_ 1958 (.aload_n 3) 1 1959 := ⟨dL_law__1958, rfl⟩
theorem dL_law__1959 : decode cL_law_ 1959 = .ok (.invokestatic 251, 3) := by decide +kernel
theorem eL_law__1959 : zD KL_law_ 1959 (.invokestatic 251) 3 1962 := ⟨dL_law__1959, rfl⟩
theorem dL_law__1962 : decode cL_law_ 1962 = .ok (.istore 5, 2) := by decide +kernel
theorem eL_law__1962 : zD KL_law_ 1962 (.istore 5) 2 1964 := ⟨dL_law__1962, rfl⟩
theorem dL_law__1964 : decode cL_law_ 1964 = .ok (.aload_n 2, 1) := by decide +kernel
theorem eL_law__1964 : zD KL_law_ 1964 (.aload_n 2) 1 1965 := ⟨dL_law__1964, rfl⟩
theorem dL_law__1965 : decode cL_law_ 1965 = .ok (.aload_n 0, 1) := by decide +kernel
theorem eL_law__1965 : zD KL_law_ 1965 (.aload_n 0) 1 1966 := ⟨dL_law__1965, rfl⟩
theorem dL_law__1966 : decode cL_law_ 1966 = .ok (.iload 4, 2) := by decide +kernel
theorem eL_law__1966 : zD KL_law_ 1966 (.iload 4) 2 1968 := ⟨dL_law__1966, rfl⟩
theorem dL_law__1968 : decode cL_law_ 1968 = .ok (.iconst 1, 1) := by decide +kernel
theorem eL_law__1968 : zD KL_law_ 1968 (.iconst 1) 1 1969 := ⟨dL_law__1968, rfl⟩
theorem dL_law__1969 : decode cL_law_ 1969 = .ok (.iadd, 1) := by decide +kernel
theorem eL_law__1969 : zD KL_law_ 1969 (.iadd) 1 1970 := ⟨dL_law__1969, rfl⟩
theorem dL_law__1970 : decode cL_law_ 1970 = .ok (.iaload, 1) := by decide +kernel
theorem eL_law__1970 : zD KL_law_ 1970 (.iaload) 1 1971 := ⟨dL_law__1970, rfl⟩
theorem dL_law__1971 : decode cL_law_ 1971 = .ok (.aload_n 0, 1) := by decide +kernel
theorem eL_law__1971 : zD KL_law_ 1971 (.aload_n 0) 1 1972 := ⟨dL_law__1971, rfl⟩
theorem dL_law__1972 : decode cL_law_ 1972 = .ok (.iload 4, 2) := by decide +kernel
theorem eL_law__1972 : zD KL_law_ 1972 (.iload 4) 2 1974 := ⟨dL_law__1972, rfl⟩
theorem dL_law__1974 : decode cL_law_ 1974 = .ok (.iconst 2, 1) := by decide +kernel
theorem eL_law__1974 : zD KL_law_ 1974 (.iconst 2) 1 1975 := ⟨dL_law__1974, rfl⟩
theorem dL_law__1975 : decode cL_law_ 1975 = .ok (.iadd, 1) := by decide +kernel
theorem eL_law__1975 : zD KL_law_ 1975 (.iadd) 1 1976 := ⟨dL_law__1975, rfl⟩
theorem dL_law__1976 : decode cL_law_ 1976 = .ok (.iaload, 1) := by decide +kernel
theorem eL_law__1976 : zD KL_law_ 1976 (.iaload) 1 1977 := ⟨dL_law__1976, rfl⟩
theorem dL_law__1977 : decode cL_law_ 1977 = .ok (.ifCond .eq 7, 3) := by decide +kernel
theorem eL_law__1977 : zD KL_law_ 1977 (.ifCond .eq 7) 3 1980 := ⟨dL_law__1977, rfl⟩
theorem dL_law__1980 : decode cL_law_ 1980 = .ok (.iconst 1, 1) := by decide +kernel
theorem eL_law__1980 : zD KL_law_ 1980 (.iconst 1) 1 1981 := ⟨dL_law__1980, rfl⟩
theorem dL_law__1981 : decode cL_law_ 1981 = .ok (.goto 4, 3) := by decide +kernel
theorem eL_law__1981 : zD KL_law_ 1981 (.goto 4) 3 1984 := ⟨dL_law__1981, rfl⟩
theorem dL_law__1984 : decode cL_law_ 1984 = .ok (.iconst 0, 1) := by decide +kernel
theorem eL_law__1984 : zD KL_law_ 1984 (.iconst 0) 1 1985 := ⟨dL_law__1984, rfl⟩
theorem dL_law__1985 : decode cL_law_ 1985 = .ok (.invokevirtual 253, 3) := by decide +kernel
theorem eL_law__1985 : zD KL_law_ 1985 (.invokevirtual 253) 3 1988 := ⟨dL_law__1985, rfl⟩
theorem dL_law__1988 : decode cL_law_ 1988 = .ok (.istore 6, 2) := by decide +kernel
theorem eL_law__1988 : zD KL_law_ 1988 (.istore 6) 2 1990 := ⟨dL_law__1988, rfl⟩
theorem dL_law__1990 : decode cL_law_ 1990 = .ok (.aload_n 2, 1) := by decide +kernel
theorem eL_law__1990 : zD KL_law_ 1990 (.aload_n 2) 1 1991 := ⟨dL_law__1990, rfl⟩
theorem dL_law__1991 : decode cL_law_ 1991 = .ok (.invokevirtual 170, 3) := by decide +kernel
theorem eL_law__1991 : zD KL_law_ 1991 (.invokevirtual 170) 3 1994 := ⟨dL_law__1991, rfl⟩
theorem dL_law__1994 : decode cL_law_ 1994 = .ok (.iload 5, 2) := by decide +kernel
theorem eL_law__1994 : zD KL_law_ 1994 (.iload 5) 2 1996 := ⟨dL_law__1994, rfl⟩
theorem dL_law__1996 : decode cL_law_ 1996 = .ok (.if_icmp .eq 5, 3) := by decide +kernel
theorem eL_law__1996 : zD KL_law_ 1996 (.if_icmp .eq 5) 3 1999 := ⟨dL_law__1996, rfl⟩
theorem dL_law__1999 : decode cL_law_ 1999 = .ok (.iconst 0, 1) := by decide +kernel
theorem eL_law__1999 : zD KL_law_ 1999 (.iconst 0) 1 2000 := ⟨dL_law__1999, rfl⟩
theorem dL_law__2000 : decode cL_law_ 2000 = .ok (.ireturn, 1) := by decide +kernel
theorem eL_law__2000 : zD KL_law_ 2000 (.ireturn) 1 2001 := ⟨dL_law__2000, rfl⟩
theorem dL_law__2001 : decode cL_law_ 2001 = .ok (.iload 5, 2) := by decide +kernel
theorem eL_law__2001 : zD KL_law_ 2001 (.iload 5) 2 2003 := ⟨dL_law__2001, rfl⟩
theorem dL_law__2003 : decode cL_law_ 2003 = .ok (.ifCond .ne 15, 3) := by decide +kernel
theorem eL_law__2003 : zD KL_law_ 2003 (.ifCond .ne 15) 3 2006 := ⟨dL_law__2003, rfl⟩
theorem dL_law__2006 : decode cL_law_ 2006 = .ok (.aload_n 3, 1) := by decide +kernel
theorem eL_law__2006 : zD KL_law_ 2006 (.aload_n 3) 1 2007 := ⟨dL_law__2006, rfl⟩
theorem dL_law__2007 : decode cL_law_ 2007 = .ok (.iconst 0, 1) := by decide +kernel
theorem eL_law__2007 : zD KL_law_ 2007 (.iconst 0) 1 2008 := ⟨dL_law__2007, rfl⟩
theorem dL_law__2008 : decode cL_law_ 2008 = .ok (.laload, 1) := by decide +kernel
theorem eL_law__2008 : zD KL_law_ 2008 (.laload) 1 2009 := ⟨dL_law__2008, rfl⟩
theorem dL_law__2009 : decode cL_law_ 2009 = .ok (.iload 6, 2) := by decide +kernel
theorem eL_law__2009 : zD KL_law_ 2009 (.iload 6) 2 2011 := ⟨dL_law__2009, rfl⟩
theorem dL_law__2011 : decode cL_law_ 2011 = .ok (.i2l, 1) := by decide +kernel
theorem eL_law__2011 : zD KL_law_ 2011 (.i2l) 1 2012 := ⟨dL_law__2011, rfl⟩
theorem dL_law__2012 : decode cL_law_ 2012 = .ok (.lcmp, 1) := by decide +kernel
theorem eL_law__2012 : zD KL_law_ 2012 (.lcmp) 1 2013 := ⟨dL_law__2012, rfl⟩
theorem dL_law__2013 : decode cL_law_ 2013 = .ok (.ifCond .eq 5, 3) := by decide +kernel
theorem eL_law__2013 : zD KL_law_ 2013 (.ifCond .eq 5) 3 2016 := ⟨dL_law__2013, rfl⟩
theorem dL_law__2016 : decode cL_law_ 2016 = .ok (.iconst 0, 1) := by decide +kernel
theorem eL_law__2016 : zD KL_law_ 2016 (.iconst 0) 1 2017 := ⟨dL_law__2016, rfl⟩
theorem dL_law__2017 : decode cL_law_ 2017 = .ok (.ireturn, 1) := by decide +kernel
theorem eL_law__2017 : zD KL_law_ 2017 (.ireturn) 1 2018 := ⟨dL_law__2017, rfl⟩
theorem dL_law__2018 : decode cL_law_ 2018 = .ok (.goto 1334, 3) := by decide +kernel
theorem eL_law__2018 : zD KL_law_ 2018 (.goto 1334) 3 2021 := ⟨dL_law__2018, rfl⟩
theorem dL_law__2021 : decode cL_law_ 2021 = .ok (.aload_n 1, 1) := by decide +kernel
theorem eL_law__2021 : zD KL_law_ 2021 (.aload_n 1) 1 2022 := ⟨dL_law__2021, rfl⟩
theorem dL_law__2022 : decode cL_law_ 2022 = .ok (.aload_n 0, 1) := by decide +kernel
theorem eL_law__2022 : zD KL_law_ 2022 (.aload_n 0) 1 2023 := ⟨dL_law__2022, rfl⟩
theorem dL_law__2023 : decode cL_law_ 2023 = .ok (.iload 4, 2) := by decide +kernel
theorem eL_law__2023 : zD KL_law_ 2023 (.iload 4) 2 2025 := ⟨dL_law__2023, rfl⟩
theorem dL_law__2025 : decode cL_law_ 2025 = .ok (.iconst 1, 1) := by decide +kernel
theorem eL_law__2025 : zD KL_law_ 2025 (.iconst 1) 1 2026 := ⟨dL_law__2025, rfl⟩
theorem dL_law__2026 : decode cL_law_ 2026 = .ok (.iadd, 1) := by decide +kernel
theorem eL_law__2026 : zD KL_law_ 2026 (.iadd) 1 2027 := ⟨dL_law__2026, rfl⟩
theorem dL_law__2027 : decode cL_law_ 2027 = .ok (.iaload, 1) := by decide +kernel
theorem eL_law__2027 : zD KL_law_ 2027 (.iaload) 1 2028 := ⟨dL_law__2027, rfl⟩
theorem dL_law__2028 : decode cL_law_ 2028 = .ok (.invokevirtual 254, 3) := by decide +kernel
theorem eL_law__2028 : zD KL_law_ 2028 (.invokevirtual 254) 3 2031 := ⟨dL_law__2028, rfl⟩
theorem dL_law__2031 : decode cL_law_ 2031 = .ok (.aload_n 2, 1) := by decide +kernel
theorem eL_law__2031 : zD KL_law_ 2031 (.aload_n 2) 1 2032 := ⟨dL_law__2031, rfl⟩
theorem dL_law__2032 : decode cL_law_ 2032 = .ok (.aload_n 0, 1) := by decide +kernel
theorem eL_law__2032 : zD KL_law_ 2032 (.aload_n 0) 1 2033 := ⟨dL_law__2032, rfl⟩
theorem dL_law__2033 : decode cL_law_ 2033 = .ok (.iload 4, 2) := by decide +kernel
theorem eL_law__2033 : zD KL_law_ 2033 (.iload 4) 2 2035 := ⟨dL_law__2033, rfl⟩
theorem dL_law__2035 : decode cL_law_ 2035 = .ok (.iconst 1, 1) := by decide +kernel
theorem eL_law__2035 : zD KL_law_ 2035 (.iconst 1) 1 2036 := ⟨dL_law__2035, rfl⟩
theorem dL_law__2036 : decode cL_law_ 2036 = .ok (.iadd, 1) := by decide +kernel
theorem eL_law__2036 : zD KL_law_ 2036 (.iadd) 1 2037 := ⟨dL_law__2036, rfl⟩
theorem dL_law__2037 : decode cL_law_ 2037 = .ok (.iaload, 1) := by decide +kernel
theorem eL_law__2037 : zD KL_law_ 2037 (.iaload) 1 2038 := ⟨dL_law__2037, rfl⟩
theorem dL_law__2038 : decode cL_law_ 2038 = .ok (.invokevirtual 257, 3) := by decide +kernel
theorem eL_law__2038 : zD KL_law_ 2038 (.invokevirtual 257) 3 2041 := ⟨dL_law__2038, rfl⟩
theorem dL_law__2041 : decode cL_law_ 2041 = .ok (.if_icmp .eq 1311, 3) := by decide +kernel
theorem eL_law__2041 : zD KL_law_ 2041 (.if_icmp .eq 1311) 3 2044 := ⟨dL_law__2041, rfl⟩
theorem dL_law__2044 : decode cL_law_ 2044 = .ok (.iconst 0, 1) := by decide +kernel
theorem eL_law__2044 : zD KL_law_ 2044 (.iconst 0) 1 2045 := ⟨dL_law__2044, rfl⟩
theorem dL_law__2045 : decode cL_law_ 2045 = .ok (.ireturn, 1) := by decide +kernel
theorem eL_law__2045 : zD KL_law_ 2045 (.ireturn) 1 2046 := ⟨dL_law__2045, rfl⟩
theorem dL_law__2046 : decode cL_law_ 2046 = .ok (.aload_n 1, 1) := by decide +kernel
theorem eL_law__2046 : zD KL_law_ 2046 (.aload_n 1) 1 2047 := ⟨dL_law__2046, rfl⟩
theorem dL_law__2047 : decode cL_law_ 2047 = .ok (.aload_n 0, 1) := by decide +kernel
theorem eL_law__2047 : zD KL_law_ 2047 (.aload_n 0) 1 2048 := ⟨dL_law__2047, rfl⟩
theorem dL_law__2048 : decode cL_law_ 2048 = .ok (.iload 4, 2) := by decide +kernel
theorem eL_law__2048 : zD KL_law_ 2048 (.iload 4) 2 2050 := ⟨dL_law__2048, rfl⟩
theorem dL_law__2050 : decode cL_law_ 2050 = .ok (.iconst 1, 1) := by decide +kernel
theorem eL_law__2050 : zD KL_law_ 2050 (.iconst 1) 1 2051 := ⟨dL_law__2050, rfl⟩
theorem dL_law__2051 : decode cL_law_ 2051 = .ok (.iadd, 1) := by decide +kernel
theorem eL_law__2051 : zD KL_law_ 2051 (.iadd) 1 2052 := ⟨dL_law__2051, rfl⟩
theorem dL_law__2052 : decode cL_law_ 2052 = .ok (.iaload, 1) := by decide +kernel
theorem eL_law__2052 : zD KL_law_ 2052 (.iaload) 1 2053 := ⟨dL_law__2052, rfl⟩
theorem dL_law__2053 : decode cL_law_ 2053 = .ok (.ifCond .eq 7, 3) := by decide +kernel
theorem eL_law__2053 : zD KL_law_ 2053 (.ifCond .eq 7) 3 2056 := ⟨dL_law__2053, rfl⟩
theorem dL_law__2056 : decode cL_law_ 2056 = .ok (.iconst 1, 1) := by decide +kernel
theorem eL_law__2056 : zD KL_law_ 2056 (.iconst 1) 1 2057 := ⟨dL_law__2056, rfl⟩
theorem dL_law__2057 : decode cL_law_ 2057 = .ok (.goto 4, 3) := by decide +kernel
theorem eL_law__2057 : zD KL_law_ 2057 (.goto 4) 3 2060 := ⟨dL_law__2057, rfl⟩
theorem dL_law__2060 : decode cL_law_ 2060 = .ok (.iconst 0, 1) := by decide +kernel
theorem eL_law__2060 : zD KL_law_ 2060 (.iconst 0) 1 2061 := ⟨dL_law__2060, rfl⟩
theorem dL_law__2061 : decode cL_law_ 2061 = .ok (.aload_n 3, 1) := by decide +kernel
theorem eL_law__2061 : zD KL_law_ 2061 (.aload_n 3) 1 2062 := ⟨dL_law__2061, rfl⟩
theorem dL_law__2062 : decode cL_law_ 2062 = .ok (.invokestatic 258, 3) := by decide +kernel
theorem eL_law__2062 : zD KL_law_ 2062 (.invokestatic 258) 3 2065 := ⟨dL_law__2062, rfl⟩
theorem dL_law__2065 : decode cL_law_ 2065 = .ok (.istore 5, 2) := by decide +kernel
theorem eL_law__2065 : zD KL_law_ 2065 (.istore 5) 2 2067 := ⟨dL_law__2065, rfl⟩
theorem dL_law__2067 : decode cL_law_ 2067 = .ok (.aload_n 2, 1) := by decide +kernel
theorem eL_law__2067 : zD KL_law_ 2067 (.aload_n 2) 1 2068 := ⟨dL_law__2067, rfl⟩
theorem dL_law__2068 : decode cL_law_ 2068 = .ok (.aload_n 0, 1) := by decide +kernel
theorem eL_law__2068 : zD KL_law_ 2068 (.aload_n 0) 1 2069 := ⟨dL_law__2068, rfl⟩
theorem dL_law__2069 : decode cL_law_ 2069 = .ok (.iload 4, 2) := by decide +kernel
theorem eL_law__2069 : zD KL_law_ 2069 (.iload 4) 2 2071 := ⟨dL_law__2069, rfl⟩
theorem dL_law__2071 : decode cL_law_ 2071 = .ok (.iconst 1, 1) := by decide +kernel
theorem eL_law__2071 : zD KL_law_ 2071 (.iconst 1) 1 2072 := ⟨dL_law__2071, rfl⟩
theorem dL_law__2072 : decode cL_law_ 2072 = .ok (.iadd, 1) := by decide +kernel
theorem eL_law__2072 : zD KL_law_ 2072 (.iadd) 1 2073 := ⟨dL_law__2072, rfl⟩
theorem dL_law__2073 : decode cL_law_ 2073 = .ok (.iaload, 1) := by decide +kernel
theorem eL_law__2073 : zD KL_law_ 2073 (.iaload) 1 2074 := ⟨dL_law__2073, rfl⟩
theorem dL_law__2074 : decode cL_law_ 2074 = .ok (.ifCond .eq 7, 3) := by decide +kernel
theorem eL_law__2074 : zD KL_law_ 2074 (.ifCond .eq 7) 3 2077 := ⟨dL_law__2074, rfl⟩
theorem dL_law__2077 : decode cL_law_ 2077 = .ok (.iconst 1, 1) := by decide +kernel
theorem eL_law__2077 : zD KL_law_ 2077 (.iconst 1) 1 2078 := ⟨dL_law__2077, rfl⟩
theorem dL_law__2078 : decode cL_law_ 2078 = .ok (.goto 4, 3) := by decide +kernel
theorem eL_law__2078 : zD KL_law_ 2078 (.goto 4) 3 2081 := ⟨dL_law__2078, rfl⟩
theorem dL_law__2081 : decode cL_law_ 2081 = .ok (.iconst 0, 1) := by decide +kernel
theorem eL_law__2081 : zD KL_law_ 2081 (.iconst 0) 1 2082 := ⟨dL_law__2081, rfl⟩
theorem dL_law__2082 : decode cL_law_ 2082 = .ok (.invokevirtual 261, 3) := by decide +kernel
theorem eL_law__2082 : zD KL_law_ 2082 (.invokevirtual 261) 3 2085 := ⟨dL_law__2082, rfl⟩
theorem dL_law__2085 : decode cL_law_ 2085 = .ok (.istore 6, 2) := by decide +kernel
theorem eL_law__2085 : zD KL_law_ 2085 (.istore 6) 2 2087 := ⟨dL_law__2085, rfl⟩
theorem dL_law__2087 : decode cL_law_ 2087 = .ok (.aload_n 2, 1) := by decide +kernel
theorem eL_law__2087 : zD KL_law_ 2087 (.aload_n 2) 1 2088 := ⟨dL_law__2087, rfl⟩
theorem dL_law__2088 : decode cL_law_ 2088 = .ok (.invokevirtual 170, 3) := by decide +kernel
theorem eL_law__2088 : zD KL_law_ 2088 (.invokevirtual 170) 3 2091 := ⟨dL_law__2088, rfl⟩
theorem dL_law__2091 : decode cL_law_ 2091 = .ok (.iload 5, 2) := by decide +kernel
theorem eL_law__2091 : zD KL_law_ 2091 (.iload 5) 2 2093 := ⟨dL_law__2091, rfl⟩
theorem dL_law__2093 : decode cL_law_ 2093 = .ok (.if_icmp .eq 5, 3) := by decide +kernel
theorem eL_law__2093 : zD KL_law_ 2093 (.if_icmp .eq 5) 3 2096 := ⟨dL_law__2093, rfl⟩
theorem dL_law__2096 : decode cL_law_ 2096 = .ok (.iconst 0, 1) := by decide +kernel
theorem eL_law__2096 : zD KL_law_ 2096 (.iconst 0) 1 2097 := ⟨dL_law__2096, rfl⟩
theorem dL_law__2097 : decode cL_law_ 2097 = .ok (.ireturn, 1) := by decide +kernel
theorem eL_law__2097 : zD KL_law_ 2097 (.ireturn) 1 2098 := ⟨dL_law__2097, rfl⟩
theorem dL_law__2098 : decode cL_law_ 2098 = .ok (.iload 5, 2) := by decide +kernel
theorem eL_law__2098 : zD KL_law_ 2098 (.iload 5) 2 2100 := ⟨dL_law__2098, rfl⟩
theorem dL_law__2100 : decode cL_law_ 2100 = .ok (.ifCond .ne 15, 3) := by decide +kernel
theorem eL_law__2100 : zD KL_law_ 2100 (.ifCond .ne 15) 3 2103 := ⟨dL_law__2100, rfl⟩
theorem dL_law__2103 : decode cL_law_ 2103 = .ok (.aload_n 3, 1) := by decide +kernel
theorem eL_law__2103 : zD KL_law_ 2103 (.aload_n 3) 1 2104 := ⟨dL_law__2103, rfl⟩
theorem dL_law__2104 : decode cL_law_ 2104 = .ok (.iconst 0, 1) := by decide +kernel
theorem eL_law__2104 : zD KL_law_ 2104 (.iconst 0) 1 2105 := ⟨dL_law__2104, rfl⟩
theorem dL_law__2105 : decode cL_law_ 2105 = .ok (.laload, 1) := by decide +kernel
theorem eL_law__2105 : zD KL_law_ 2105 (.laload) 1 2106 := ⟨dL_law__2105, rfl⟩
theorem dL_law__2106 : decode cL_law_ 2106 = .ok (.iload 6, 2) := by decide +kernel
theorem eL_law__2106 : zD KL_law_ 2106 (.iload 6) 2 2108 := ⟨dL_law__2106, rfl⟩
theorem dL_law__2108 : decode cL_law_ 2108 = .ok (.i2l, 1) := by decide +kernel
theorem eL_law__2108 : zD KL_law_ 2108 (.i2l) 1 2109 := ⟨dL_law__2108, rfl⟩
theorem dL_law__2109 : decode cL_law_ 2109 = .ok (.lcmp, 1) := by decide +kernel
theorem eL_law__2109 : zD KL_law_ 2109 (.lcmp) 1 2110 := ⟨dL_law__2109, rfl⟩
theorem dL_law__2110 : decode cL_law_ 2110 = .ok (.ifCond .eq 5, 3) := by decide +kernel
theorem eL_law__2110 : zD KL_law_ 2110 (.ifCond .eq 5) 3 2113 := ⟨dL_law__2110, rfl⟩
theorem dL_law__2113 : decode cL_law_ 2113 = .ok (.iconst 0, 1) := by decide +kernel
theorem eL_law__2113 : zD KL_law_ 2113 (.iconst 0) 1 2114 := ⟨dL_law__2113, rfl⟩
theorem dL_law__2114 : decode cL_law_ 2114 = .ok (.ireturn, 1) := by decide +kernel
theorem eL_law__2114 : zD KL_law_ 2114 (.ireturn) 1 2115 := ⟨dL_law__2114, rfl⟩
theorem dL_law__2115 : decode cL_law_ 2115 = .ok (.goto 1237, 3) := by decide +kernel
theorem eL_law__2115 : zD KL_law_ 2115 (.goto 1237) 3 2118 := ⟨dL_law__2115, rfl⟩
theorem dL_law__2118 : decode cL_law_ 2118 = .ok (.aload_n 1, 1) := by decide +kernel
theorem eL_law__2118 : zD KL_law_ 2118 (.aload_n 1) 1 2119 := ⟨dL_law__2118, rfl⟩
theorem dL_law__2119 : decode cL_law_ 2119 = .ok (.aload_n 3, 1) := by decide +kernel
theorem eL_law__2119 : zD KL_law_ 2119 (.aload_n 3) 1 2120 := ⟨dL_law__2119, rfl⟩
theorem dL_law__2120 : decode cL_law_ 2120 = .ok (.invokestatic 262, 3) := by decide +kernel
theorem eL_law__2120 : zD KL_law_ 2120 (.invokestatic 262) 3 2123 := ⟨dL_law__2120, rfl⟩
theorem dL_law__2123 : decode cL_law_ 2123 = .ok (.istore 5, 2) := by decide +kernel
theorem eL_law__2123 : zD KL_law_ 2123 (.istore 5) 2 2125 := ⟨dL_law__2123, rfl⟩
theorem dL_law__2125 : decode cL_law_ 2125 = .ok (.aload_n 2, 1) := by decide +kernel
theorem eL_law__2125 : zD KL_law_ 2125 (.aload_n 2) 1 2126 := ⟨dL_law__2125, rfl⟩
theorem dL_law__2126 : decode cL_law_ 2126 = .ok (.invokevirtual 264, 3) := by decide +kernel
theorem eL_law__2126 : zD KL_law_ 2126 (.invokevirtual 264) 3 2129 := ⟨dL_law__2126, rfl⟩
theorem dL_law__2129 : decode cL_law_ 2129 = .ok (.istore 6, 2) := by decide +kernel
theorem eL_law__2129 : zD KL_law_ 2129 (.istore 6) 2 2131 := ⟨dL_law__2129, rfl⟩
theorem dL_law__2131 : decode cL_law_ 2131 = .ok (.aload_n 2, 1) := by decide +kernel
theorem eL_law__2131 : zD KL_law_ 2131 (.aload_n 2) 1 2132 := ⟨dL_law__2131, rfl⟩
theorem dL_law__2132 : decode cL_law_ 2132 = .ok (.invokevirtual 170, 3) := by decide +kernel
theorem eL_law__2132 : zD KL_law_ 2132 (.invokevirtual 170) 3 2135 := ⟨dL_law__2132, rfl⟩
theorem dL_law__2135 : decode cL_law_ 2135 = .ok (.iload 5, 2) := by decide +kernel
theorem eL_law__2135 : zD KL_law_ 2135 (.iload 5) 2 2137 := ⟨dL_law__2135, rfl⟩
theorem dL_law__2137 : decode cL_law_ 2137 = .ok (.if_icmp .eq 5, 3) := by decide +kernel
theorem eL_law__2137 : zD KL_law_ 2137 (.if_icmp .eq 5) 3 2140 := ⟨dL_law__2137, rfl⟩
theorem dL_law__2140 : decode cL_law_ 2140 = .ok (.iconst 0, 1) := by decide +kernel
theorem eL_law__2140 : zD KL_law_ 2140 (.iconst 0) 1 2141 := ⟨dL_law__2140, rfl⟩
theorem dL_law__2141 : decode cL_law_ 2141 = .ok (.ireturn, 1) := by decide +kernel
theorem eL_law__2141 : zD KL_law_ 2141 (.ireturn) 1 2142 := ⟨dL_law__2141, rfl⟩
theorem dL_law__2142 : decode cL_law_ 2142 = .ok (.iload 5, 2) := by decide +kernel
theorem eL_law__2142 : zD KL_law_ 2142 (.iload 5) 2 2144 := ⟨dL_law__2142, rfl⟩
theorem dL_law__2144 : decode cL_law_ 2144 = .ok (.ifCond .ne 15, 3) := by decide +kernel
theorem eL_law__2144 : zD KL_law_ 2144 (.ifCond .ne 15) 3 2147 := ⟨dL_law__2144, rfl⟩
theorem dL_law__2147 : decode cL_law_ 2147 = .ok (.aload_n 3, 1) := by decide +kernel
theorem eL_law__2147 : zD KL_law_ 2147 (.aload_n 3) 1 2148 := ⟨dL_law__2147, rfl⟩
theorem dL_law__2148 : decode cL_law_ 2148 = .ok (.iconst 0, 1) := by decide +kernel
theorem eL_law__2148 : zD KL_law_ 2148 (.iconst 0) 1 2149 := ⟨dL_law__2148, rfl⟩
theorem dL_law__2149 : decode cL_law_ 2149 = .ok (.laload, 1) := by decide +kernel
theorem eL_law__2149 : zD KL_law_ 2149 (.laload) 1 2150 := ⟨dL_law__2149, rfl⟩
theorem dL_law__2150 : decode cL_law_ 2150 = .ok (.iload 6, 2) := by decide +kernel
theorem eL_law__2150 : zD KL_law_ 2150 (.iload 6) 2 2152 := ⟨dL_law__2150, rfl⟩
theorem dL_law__2152 : decode cL_law_ 2152 = .ok (.i2l, 1) := by decide +kernel
theorem eL_law__2152 : zD KL_law_ 2152 (.i2l) 1 2153 := ⟨dL_law__2152, rfl⟩
theorem dL_law__2153 : decode cL_law_ 2153 = .ok (.lcmp, 1) := by decide +kernel
theorem eL_law__2153 : zD KL_law_ 2153 (.lcmp) 1 2154 := ⟨dL_law__2153, rfl⟩
theorem dL_law__2154 : decode cL_law_ 2154 = .ok (.ifCond .eq 5, 3) := by decide +kernel
theorem eL_law__2154 : zD KL_law_ 2154 (.ifCond .eq 5) 3 2157 := ⟨dL_law__2154, rfl⟩
theorem dL_law__2157 : decode cL_law_ 2157 = .ok (.iconst 0, 1) := by decide +kernel
theorem eL_law__2157 : zD KL_law_ 2157 (.iconst 0) 1 2158 := ⟨dL_law__2157, rfl⟩
theorem dL_law__2158 : decode cL_law_ 2158 = .ok (.ireturn, 1) := by decide +kernel
theorem eL_law__2158 : zD KL_law_ 2158 (.ireturn) 1 2159 := ⟨dL_law__2158, rfl⟩
theorem dL_law__2159 : decode cL_law_ 2159 = .ok (.goto 1193, 3) := by decide +kernel
theorem eL_law__2159 : zD KL_law_ 2159 (.goto 1193) 3 2162 := ⟨dL_law__2159, rfl⟩
theorem dL_law__2162 : decode cL_law_ 2162 = .ok (.aload_n 1, 1) := by decide +kernel
theorem eL_law__2162 : zD KL_law_ 2162 (.aload_n 1) 1 2163 := ⟨dL_law__2162, rfl⟩
theorem dL_law__2163 : decode cL_law_ 2163 = .ok (.aload_n 0, 1) := by decide +kernel
theorem eL_law__2163 : zD KL_law_ 2163 (.aload_n 0) 1 2164 := ⟨dL_law__2163, rfl⟩
theorem dL_law__2164 : decode cL_law_ 2164 = .ok (.iload 4, 2) := by decide +kernel
theorem eL_law__2164 : zD KL_law_ 2164 (.iload 4) 2 2166 := ⟨dL_law__2164, rfl⟩
theorem dL_law__2166 : decode cL_law_ 2166 = .ok (.iconst 1, 1) := by decide +kernel
theorem eL_law__2166 : zD KL_law_ 2166 (.iconst 1) 1 2167 := ⟨dL_law__2166, rfl⟩
theorem dL_law__2167 : decode cL_law_ 2167 = .ok (.iadd, 1) := by decide +kernel
theorem eL_law__2167 : zD KL_law_ 2167 (.iadd) 1 2168 := ⟨dL_law__2167, rfl⟩
theorem dL_law__2168 : decode cL_law_ 2168 = .ok (.iaload, 1) := by decide +kernel
theorem eL_law__2168 : zD KL_law_ 2168 (.iaload) 1 2169 := ⟨dL_law__2168, rfl⟩
theorem dL_law__2169 : decode cL_law_ 2169 = .ok (.aload_n 3, 1) := by decide +kernel
theorem eL_law__2169 : zD KL_law_ 2169 (.aload_n 3) 1 2170 := ⟨dL_law__2169, rfl⟩
theorem dL_law__2170 : decode cL_law_ 2170 = .ok (.invokestatic 265, 3) := by decide +kernel
theorem eL_law__2170 : zD KL_law_ 2170 (.invokestatic 265) 3 2173 := ⟨dL_law__2170, rfl⟩
theorem dL_law__2173 : decode cL_law_ 2173 = .ok (.istore 5, 2) := by decide +kernel
theorem eL_law__2173 : zD KL_law_ 2173 (.istore 5) 2 2175 := ⟨dL_law__2173, rfl⟩
theorem dL_law__2175 : decode cL_law_ 2175 = .ok (.aload_n 2, 1) := by decide +kernel
theorem eL_law__2175 : zD KL_law_ 2175 (.aload_n 2) 1 2176 := ⟨dL_law__2175, rfl⟩
theorem dL_law__2176 : decode cL_law_ 2176 = .ok (.aload_n 0, 1) := by decide +kernel
theorem eL_law__2176 : zD KL_law_ 2176 (.aload_n 0) 1 2177 := ⟨dL_law__2176, rfl⟩
theorem dL_law__2177 : decode cL_law_ 2177 = .ok (.iload 4, 2) := by decide +kernel
theorem eL_law__2177 : zD KL_law_ 2177 (.iload 4) 2 2179 := ⟨dL_law__2177, rfl⟩
theorem dL_law__2179 : decode cL_law_ 2179 = .ok (.iconst 1, 1) := by decide +kernel
theorem eL_law__2179 : zD KL_law_ 2179 (.iconst 1) 1 2180 := ⟨dL_law__2179, rfl⟩
theorem dL_law__2180 : decode cL_law_ 2180 = .ok (.iadd, 1) := by decide +kernel
theorem eL_law__2180 : zD KL_law_ 2180 (.iadd) 1 2181 := ⟨dL_law__2180, rfl⟩
theorem dL_law__2181 : decode cL_law_ 2181 = .ok (.iaload, 1) := by decide +kernel
theorem eL_law__2181 : zD KL_law_ 2181 (.iaload) 1 2182 := ⟨dL_law__2181, rfl⟩
theorem dL_law__2182 : decode cL_law_ 2182 = .ok (.invokevirtual 267, 3) := by decide +kernel
theorem eL_law__2182 : zD KL_law_ 2182 (.invokevirtual 267) 3 2185 := ⟨dL_law__2182, rfl⟩
theorem dL_law__2185 : decode cL_law_ 2185 = .ok (.istore 6, 2) := by decide +kernel
theorem eL_law__2185 : zD KL_law_ 2185 (.istore 6) 2 2187 := ⟨dL_law__2185, rfl⟩
theorem dL_law__2187 : decode cL_law_ 2187 = .ok (.aload_n 2, 1) := by decide +kernel
theorem eL_law__2187 : zD KL_law_ 2187 (.aload_n 2) 1 2188 := ⟨dL_law__2187, rfl⟩
theorem dL_law__2188 : decode cL_law_ 2188 = .ok (.invokevirtual 170, 3) := by decide +kernel
theorem eL_law__2188 : zD KL_law_ 2188 (.invokevirtual 170) 3 2191 := ⟨dL_law__2188, rfl⟩
theorem dL_law__2191 : decode cL_law_ 2191 = .ok (.iload 5, 2) := by decide +kernel
theorem eL_law__2191 : zD KL_law_ 2191 (.iload 5) 2 2193 := ⟨dL_law__2191, rfl⟩
theorem dL_law__2193 : decode cL_law_ 2193 = .ok (.if_icmp .eq 5, 3) := by decide +kernel
theorem eL_law__2193 : zD KL_law_ 2193 (.if_icmp .eq 5) 3 2196 := ⟨dL_law__2193, rfl⟩
theorem dL_law__2196 : decode cL_law_ 2196 = .ok (.iconst 0, 1) := by decide +kernel
theorem eL_law__2196 : zD KL_law_ 2196 (.iconst 0) 1 2197 := ⟨dL_law__2196, rfl⟩
theorem dL_law__2197 : decode cL_law_ 2197 = .ok (.ireturn, 1) := by decide +kernel
theorem eL_law__2197 : zD KL_law_ 2197 (.ireturn) 1 2198 := ⟨dL_law__2197, rfl⟩
theorem dL_law__2198 : decode cL_law_ 2198 = .ok (.iload 5, 2) := by decide +kernel
theorem eL_law__2198 : zD KL_law_ 2198 (.iload 5) 2 2200 := ⟨dL_law__2198, rfl⟩
theorem dL_law__2200 : decode cL_law_ 2200 = .ok (.ifCond .ne 15, 3) := by decide +kernel
theorem eL_law__2200 : zD KL_law_ 2200 (.ifCond .ne 15) 3 2203 := ⟨dL_law__2200, rfl⟩
theorem dL_law__2203 : decode cL_law_ 2203 = .ok (.aload_n 3, 1) := by decide +kernel
theorem eL_law__2203 : zD KL_law_ 2203 (.aload_n 3) 1 2204 := ⟨dL_law__2203, rfl⟩
theorem dL_law__2204 : decode cL_law_ 2204 = .ok (.iconst 0, 1) := by decide +kernel
theorem eL_law__2204 : zD KL_law_ 2204 (.iconst 0) 1 2205 := ⟨dL_law__2204, rfl⟩
theorem dL_law__2205 : decode cL_law_ 2205 = .ok (.laload, 1) := by decide +kernel
theorem eL_law__2205 : zD KL_law_ 2205 (.laload) 1 2206 := ⟨dL_law__2205, rfl⟩
theorem dL_law__2206 : decode cL_law_ 2206 = .ok (.iload 6, 2) := by decide +kernel
theorem eL_law__2206 : zD KL_law_ 2206 (.iload 6) 2 2208 := ⟨dL_law__2206, rfl⟩
theorem dL_law__2208 : decode cL_law_ 2208 = .ok (.i2l, 1) := by decide +kernel
theorem eL_law__2208 : zD KL_law_ 2208 (.i2l) 1 2209 := ⟨dL_law__2208, rfl⟩
theorem dL_law__2209 : decode cL_law_ 2209 = .ok (.lcmp, 1) := by decide +kernel
theorem eL_law__2209 : zD KL_law_ 2209 (.lcmp) 1 2210 := ⟨dL_law__2209, rfl⟩
theorem dL_law__2210 : decode cL_law_ 2210 = .ok (.ifCond .eq 5, 3) := by decide +kernel
theorem eL_law__2210 : zD KL_law_ 2210 (.ifCond .eq 5) 3 2213 := ⟨dL_law__2210, rfl⟩
theorem dL_law__2213 : decode cL_law_ 2213 = .ok (.iconst 0, 1) := by decide +kernel
theorem eL_law__2213 : zD KL_law_ 2213 (.iconst 0) 1 2214 := ⟨dL_law__2213, rfl⟩
theorem dL_law__2214 : decode cL_law_ 2214 = .ok (.ireturn, 1) := by decide +kernel
theorem eL_law__2214 : zD KL_law_ 2214 (.ireturn) 1 2215 := ⟨dL_law__2214, rfl⟩
theorem dL_law__2215 : decode cL_law_ 2215 = .ok (.goto 1137, 3) := by decide +kernel
theorem eL_law__2215 : zD KL_law_ 2215 (.goto 1137) 3 2218 := ⟨dL_law__2215, rfl⟩
theorem dL_law__2218 : decode cL_law_ 2218 = .ok (.aload_n 1, 1) := by decide +kernel
theorem eL_law__2218 : zD KL_law_ 2218 (.aload_n 1) 1 2219 := ⟨dL_law__2218, rfl⟩
theorem dL_law__2219 : decode cL_law_ 2219 = .ok (.aload_n 3, 1) := by decide +kernel
theorem eL_law__2219 : zD KL_law_ 2219 (.aload_n 3) 1 2220 := ⟨dL_law__2219, rfl⟩
theorem dL_law__2220 : decode cL_law_ 2220 = .ok (.invokestatic 268, 3) := by decide +kernel
theorem eL_law__2220 : zD KL_law_ 2220 (.invokestatic 268) 3 2223 := ⟨dL_law__2220, rfl⟩
theorem dL_law__2223 : decode cL_law_ 2223 = .ok (.istore 5, 2) := by decide +kernel
theorem eL_law__2223 : zD KL_law_ 2223 (.istore 5) 2 2225 := ⟨dL_law__2223, rfl⟩
theorem dL_law__2225 : decode cL_law_ 2225 = .ok (.aload_n 2, 1) := by decide +kernel
theorem eL_law__2225 : zD KL_law_ 2225 (.aload_n 2) 1 2226 := ⟨dL_law__2225, rfl⟩
theorem dL_law__2226 : decode cL_law_ 2226 = .ok (.invokevirtual 270, 3) := by decide +kernel
theorem eL_law__2226 : zD KL_law_ 2226 (.invokevirtual 270) 3 2229 := ⟨dL_law__2226, rfl⟩
theorem dL_law__2229 : decode cL_law_ 2229 = .ok (.istore 6, 2) := by decide +kernel
theorem eL_law__2229 : zD KL_law_ 2229 (.istore 6) 2 2231 := ⟨dL_law__2229, rfl⟩
theorem dL_law__2231 : decode cL_law_ 2231 = .ok (.aload_n 2, 1) := by decide +kernel
theorem eL_law__2231 : zD KL_law_ 2231 (.aload_n 2) 1 2232 := ⟨dL_law__2231, rfl⟩
theorem dL_law__2232 : decode cL_law_ 2232 = .ok (.invokevirtual 170, 3) := by decide +kernel
theorem eL_law__2232 : zD KL_law_ 2232 (.invokevirtual 170) 3 2235 := ⟨dL_law__2232, rfl⟩
theorem dL_law__2235 : decode cL_law_ 2235 = .ok (.iload 5, 2) := by decide +kernel
theorem eL_law__2235 : zD KL_law_ 2235 (.iload 5) 2 2237 := ⟨dL_law__2235, rfl⟩
theorem dL_law__2237 : decode cL_law_ 2237 = .ok (.if_icmp .eq 5, 3) := by decide +kernel
theorem eL_law__2237 : zD KL_law_ 2237 (.if_icmp .eq 5) 3 2240 := ⟨dL_law__2237, rfl⟩
theorem dL_law__2240 : decode cL_law_ 2240 = .ok (.iconst 0, 1) := by decide +kernel
theorem eL_law__2240 : zD KL_law_ 2240 (.iconst 0) 1 2241 := ⟨dL_law__2240, rfl⟩
theorem dL_law__2241 : decode cL_law_ 2241 = .ok (.ireturn, 1) := by decide +kernel
theorem eL_law__2241 : zD KL_law_ 2241 (.ireturn) 1 2242 := ⟨dL_law__2241, rfl⟩
theorem dL_law__2242 : decode cL_law_ 2242 = .ok (.iload 5, 2) := by decide +kernel
theorem eL_law__2242 : zD KL_law_ 2242 (.iload 5) 2 2244 := ⟨dL_law__2242, rfl⟩
theorem dL_law__2244 : decode cL_law_ 2244 = .ok (.ifCond .ne 15, 3) := by decide +kernel
theorem eL_law__2244 : zD KL_law_ 2244 (.ifCond .ne 15) 3 2247 := ⟨dL_law__2244, rfl⟩
theorem dL_law__2247 : decode cL_law_ 2247 = .ok (.aload_n 3, 1) := by decide +kernel
theorem eL_law__2247 : zD KL_law_ 2247 (.aload_n 3) 1 2248 := ⟨dL_law__2247, rfl⟩
theorem dL_law__2248 : decode cL_law_ 2248 = .ok (.iconst 0, 1) := by decide +kernel
theorem eL_law__2248 : zD KL_law_ 2248 (.iconst 0) 1 2249 := ⟨dL_law__2248, rfl⟩
theorem dL_law__2249 : decode cL_law_ 2249 = .ok (.laload, 1) := by decide +kernel
theorem eL_law__2249 : zD KL_law_ 2249 (.laload) 1 2250 := ⟨dL_law__2249, rfl⟩
theorem dL_law__2250 : decode cL_law_ 2250 = .ok (.iload 6, 2) := by decide +kernel
theorem eL_law__2250 : zD KL_law_ 2250 (.iload 6) 2 2252 := ⟨dL_law__2250, rfl⟩
theorem dL_law__2252 : decode cL_law_ 2252 = .ok (.i2l, 1) := by decide +kernel
theorem eL_law__2252 : zD KL_law_ 2252 (.i2l) 1 2253 := ⟨dL_law__2252, rfl⟩
theorem dL_law__2253 : decode cL_law_ 2253 = .ok (.lcmp, 1) := by decide +kernel
theorem eL_law__2253 : zD KL_law_ 2253 (.lcmp) 1 2254 := ⟨dL_law__2253, rfl⟩
theorem dL_law__2254 : decode cL_law_ 2254 = .ok (.ifCond .eq 5, 3) := by decide +kernel
theorem eL_law__2254 : zD KL_law_ 2254 (.ifCond .eq 5) 3 2257 := ⟨dL_law__2254, rfl⟩
theorem dL_law__2257 : decode cL_law_ 2257 = .ok (.iconst 0, 1) := by decide +kernel
theorem eL_law__2257 : zD KL_law_ 2257 (.iconst 0) 1 2258 := ⟨dL_law__2257, rfl⟩
theorem dL_law__2258 : decode cL_law_ 2258 = .ok (.ireturn, 1) := by decide +kernel
theorem eL_law__2258 : zD KL_law_ 2258 (.ireturn) 1 2259 := ⟨dL_law__2258, rfl⟩
theorem dL_law__2259 : decode cL_law_ 2259 = .ok (.goto 1093, 3) := by decide +kernel
theorem eL_law__2259 : zD KL_law_ 2259 (.goto 1093) 3 2262 := ⟨dL_law__2259, rfl⟩
theorem dL_law__2262 : decode cL_law_ 2262 = .ok (.aload_n 1, 1) := by decide +kernel
theorem eL_law__2262 : zD KL_law_ 2262 (.aload_n 1) 1 2263 := ⟨dL_law__2262, rfl⟩
theorem dL_law__2263 : decode cL_law_ 2263 = .ok (.invokevirtual 271, 3) := by decide +kernel
theorem eL_law__2263 : zD KL_law_ 2263 (.invokevirtual 271) 3 2266 := ⟨dL_law__2263, rfl⟩
theorem dL_law__2266 : decode cL_law_ 2266 = .ok (.aload_n 2, 1) := by decide +kernel
theorem eL_law__2266 : zD KL_law_ 2266 (.aload_n 2) 1 2267 := ⟨dL_law__2266, rfl⟩
theorem dL_law__2267 : decode cL_law_ 2267 = .ok (.invokevirtual 274, 3) := by decide +kernel
theorem eL_law__2267 : zD KL_law_ 2267 (.invokevirtual 274) 3 2270 := ⟨dL_law__2267, rfl⟩
theorem dL_law__2270 : decode cL_law_ 2270 = .ok (.if_icmp .eq 1082, 3) := by decide +kernel
theorem eL_law__2270 : zD KL_law_ 2270 (.if_icmp .eq 1082) 3 2273 := ⟨dL_law__2270, rfl⟩
theorem dL_law__2273 : decode cL_law_ 2273 = .ok (.iconst 0, 1) := by decide +kernel
theorem eL_law__2273 : zD KL_law_ 2273 (.iconst 0) 1 2274 := ⟨dL_law__2273, rfl⟩
theorem dL_law__2274 : decode cL_law_ 2274 = .ok (.ireturn, 1) := by decide +kernel
theorem eL_law__2274 : zD KL_law_ 2274 (.ireturn) 1 2275 := ⟨dL_law__2274, rfl⟩
theorem dL_law__2275 : decode cL_law_ 2275 = .ok (.aload_n 1, 1) := by decide +kernel
theorem eL_law__2275 : zD KL_law_ 2275 (.aload_n 1) 1 2276 := ⟨dL_law__2275, rfl⟩
theorem dL_law__2276 : decode cL_law_ 2276 = .ok (.aload_n 0, 1) := by decide +kernel
theorem eL_law__2276 : zD KL_law_ 2276 (.aload_n 0) 1 2277 := ⟨dL_law__2276, rfl⟩
theorem dL_law__2277 : decode cL_law_ 2277 = .ok (.iload 4, 2) := by decide +kernel
theorem eL_law__2277 : zD KL_law_ 2277 (.iload 4) 2 2279 := ⟨dL_law__2277, rfl⟩
theorem dL_law__2279 : decode cL_law_ 2279 = .ok (.iconst 1, 1) := by decide +kernel
theorem eL_law__2279 : zD KL_law_ 2279 (.iconst 1) 1 2280 := ⟨dL_law__2279, rfl⟩
theorem dL_law__2280 : decode cL_law_ 2280 = .ok (.iadd, 1) := by decide +kernel
theorem eL_law__2280 : zD KL_law_ 2280 (.iadd) 1 2281 := ⟨dL_law__2280, rfl⟩
theorem dL_law__2281 : decode cL_law_ 2281 = .ok (.iaload, 1) := by decide +kernel
theorem eL_law__2281 : zD KL_law_ 2281 (.iaload) 1 2282 := ⟨dL_law__2281, rfl⟩
theorem dL_law__2282 : decode cL_law_ 2282 = .ok (.aload_n 3, 1) := by decide +kernel
theorem eL_law__2282 : zD KL_law_ 2282 (.aload_n 3) 1 2283 := ⟨dL_law__2282, rfl⟩
theorem dL_law__2283 : decode cL_law_ 2283 = .ok (.invokestatic 275, 3) := by decide +kernel
theorem eL_law__2283 : zD KL_law_ 2283 (.invokestatic 275) 3 2286 := ⟨dL_law__2283, rfl⟩
theorem dL_law__2286 : decode cL_law_ 2286 = .ok (.istore 5, 2) := by decide +kernel
theorem eL_law__2286 : zD KL_law_ 2286 (.istore 5) 2 2288 := ⟨dL_law__2286, rfl⟩
theorem dL_law__2288 : decode cL_law_ 2288 = .ok (.aload_n 2, 1) := by decide +kernel
theorem eL_law__2288 : zD KL_law_ 2288 (.aload_n 2) 1 2289 := ⟨dL_law__2288, rfl⟩
theorem dL_law__2289 : decode cL_law_ 2289 = .ok (.aload_n 0, 1) := by decide +kernel
theorem eL_law__2289 : zD KL_law_ 2289 (.aload_n 0) 1 2290 := ⟨dL_law__2289, rfl⟩
theorem dL_law__2290 : decode cL_law_ 2290 = .ok (.iload 4, 2) := by decide +kernel
theorem eL_law__2290 : zD KL_law_ 2290 (.iload 4) 2 2292 := ⟨dL_law__2290, rfl⟩
theorem dL_law__2292 : decode cL_law_ 2292 = .ok (.iconst 1, 1) := by decide +kernel
theorem eL_law__2292 : zD KL_law_ 2292 (.iconst 1) 1 2293 := ⟨dL_law__2292, rfl⟩
theorem dL_law__2293 : decode cL_law_ 2293 = .ok (.iadd, 1) := by decide +kernel
theorem eL_law__2293 : zD KL_law_ 2293 (.iadd) 1 2294 := ⟨dL_law__2293, rfl⟩
theorem dL_law__2294 : decode cL_law_ 2294 = .ok (.iaload, 1) := by decide +kernel
theorem eL_law__2294 : zD KL_law_ 2294 (.iaload) 1 2295 := ⟨dL_law__2294, rfl⟩
theorem dL_law__2295 : decode cL_law_ 2295 = .ok (.invokevirtual 277, 3) := by decide +kernel
theorem eL_law__2295 : zD KL_law_ 2295 (.invokevirtual 277) 3 2298 := ⟨dL_law__2295, rfl⟩
theorem dL_law__2298 : decode cL_law_ 2298 = .ok (.istore 6, 2) := by decide +kernel
theorem eL_law__2298 : zD KL_law_ 2298 (.istore 6) 2 2300 := ⟨dL_law__2298, rfl⟩
theorem dL_law__2300 : decode cL_law_ 2300 = .ok (.aload_n 2, 1) := by decide +kernel
theorem eL_law__2300 : zD KL_law_ 2300 (.aload_n 2) 1 2301 := ⟨dL_law__2300, rfl⟩
theorem dL_law__2301 : decode cL_law_ 2301 = .ok (.invokevirtual 170, 3) := by decide +kernel
theorem eL_law__2301 : zD KL_law_ 2301 (.invokevirtual 170) 3 2304 := ⟨dL_law__2301, rfl⟩
theorem dL_law__2304 : decode cL_law_ 2304 = .ok (.iload 5, 2) := by decide +kernel
theorem eL_law__2304 : zD KL_law_ 2304 (.iload 5) 2 2306 := ⟨dL_law__2304, rfl⟩
theorem dL_law__2306 : decode cL_law_ 2306 = .ok (.if_icmp .eq 5, 3) := by decide +kernel
theorem eL_law__2306 : zD KL_law_ 2306 (.if_icmp .eq 5) 3 2309 := ⟨dL_law__2306, rfl⟩
theorem dL_law__2309 : decode cL_law_ 2309 = .ok (.iconst 0, 1) := by decide +kernel
theorem eL_law__2309 : zD KL_law_ 2309 (.iconst 0) 1 2310 := ⟨dL_law__2309, rfl⟩
theorem dL_law__2310 : decode cL_law_ 2310 = .ok (.ireturn, 1) := by decide +kernel
theorem eL_law__2310 : zD KL_law_ 2310 (.ireturn) 1 2311 := ⟨dL_law__2310, rfl⟩
theorem dL_law__2311 : decode cL_law_ 2311 = .ok (.iload 5, 2) := by decide +kernel
theorem eL_law__2311 : zD KL_law_ 2311 (.iload 5) 2 2313 := ⟨dL_law__2311, rfl⟩
theorem dL_law__2313 : decode cL_law_ 2313 = .ok (.ifCond .ne 15, 3) := by decide +kernel
theorem eL_law__2313 : zD KL_law_ 2313 (.ifCond .ne 15) 3 2316 := ⟨dL_law__2313, rfl⟩
theorem dL_law__2316 : decode cL_law_ 2316 = .ok (.aload_n 3, 1) := by decide +kernel
theorem eL_law__2316 : zD KL_law_ 2316 (.aload_n 3) 1 2317 := ⟨dL_law__2316, rfl⟩
theorem dL_law__2317 : decode cL_law_ 2317 = .ok (.iconst 0, 1) := by decide +kernel
theorem eL_law__2317 : zD KL_law_ 2317 (.iconst 0) 1 2318 := ⟨dL_law__2317, rfl⟩
theorem dL_law__2318 : decode cL_law_ 2318 = .ok (.laload, 1) := by decide +kernel
theorem eL_law__2318 : zD KL_law_ 2318 (.laload) 1 2319 := ⟨dL_law__2318, rfl⟩
theorem dL_law__2319 : decode cL_law_ 2319 = .ok (.iload 6, 2) := by decide +kernel
theorem eL_law__2319 : zD KL_law_ 2319 (.iload 6) 2 2321 := ⟨dL_law__2319, rfl⟩
theorem dL_law__2321 : decode cL_law_ 2321 = .ok (.i2l, 1) := by decide +kernel
theorem eL_law__2321 : zD KL_law_ 2321 (.i2l) 1 2322 := ⟨dL_law__2321, rfl⟩
theorem dL_law__2322 : decode cL_law_ 2322 = .ok (.lcmp, 1) := by decide +kernel
theorem eL_law__2322 : zD KL_law_ 2322 (.lcmp) 1 2323 := ⟨dL_law__2322, rfl⟩
theorem dL_law__2323 : decode cL_law_ 2323 = .ok (.ifCond .eq 5, 3) := by decide +kernel
theorem eL_law__2323 : zD KL_law_ 2323 (.ifCond .eq 5) 3 2326 := ⟨dL_law__2323, rfl⟩
theorem dL_law__2326 : decode cL_law_ 2326 = .ok (.iconst 0, 1) := by decide +kernel
theorem eL_law__2326 : zD KL_law_ 2326 (.iconst 0) 1 2327 := ⟨dL_law__2326, rfl⟩
theorem dL_law__2327 : decode cL_law_ 2327 = .ok (.ireturn, 1) := by decide +kernel
theorem eL_law__2327 : zD KL_law_ 2327 (.ireturn) 1 2328 := ⟨dL_law__2327, rfl⟩
theorem dL_law__2328 : decode cL_law_ 2328 = .ok (.goto 1024, 3) := by decide +kernel
theorem eL_law__2328 : zD KL_law_ 2328 (.goto 1024) 3 2331 := ⟨dL_law__2328, rfl⟩
theorem dL_law__2331 : decode cL_law_ 2331 = .ok (.aload_n 1, 1) := by decide +kernel
theorem eL_law__2331 : zD KL_law_ 2331 (.aload_n 1) 1 2332 := ⟨dL_law__2331, rfl⟩
theorem dL_law__2332 : decode cL_law_ 2332 = .ok (.aload_n 0, 1) := by decide +kernel
theorem eL_law__2332 : zD KL_law_ 2332 (.aload_n 0) 1 2333 := ⟨dL_law__2332, rfl⟩
theorem dL_law__2333 : decode cL_law_ 2333 = .ok (.iload 4, 2) := by decide +kernel
theorem eL_law__2333 : zD KL_law_ 2333 (.iload 4) 2 2335 := ⟨dL_law__2333, rfl⟩
theorem dL_law__2335 : decode cL_law_ 2335 = .ok (.iconst 1, 1) := by decide +kernel
theorem eL_law__2335 : zD KL_law_ 2335 (.iconst 1) 1 2336 := ⟨dL_law__2335, rfl⟩
theorem dL_law__2336 : decode cL_law_ 2336 = .ok (.iadd, 1) := by decide +kernel
theorem eL_law__2336 : zD KL_law_ 2336 (.iadd) 1 2337 := ⟨dL_law__2336, rfl⟩
theorem dL_law__2337 : decode cL_law_ 2337 = .ok (.iaload, 1) := by decide +kernel
theorem eL_law__2337 : zD KL_law_ 2337 (.iaload) 1 2338 := ⟨dL_law__2337, rfl⟩
theorem dL_law__2338 : decode cL_law_ 2338 = .ok (.invokevirtual 278, 3) := by decide +kernel
theorem eL_law__2338 : zD KL_law_ 2338 (.invokevirtual 278) 3 2341 := ⟨dL_law__2338, rfl⟩
theorem dL_law__2341 : decode cL_law_ 2341 = .ok (.aload_n 2, 1) := by decide +kernel
theorem eL_law__2341 : zD KL_law_ 2341 (.aload_n 2) 1 2342 := ⟨dL_law__2341, rfl⟩
theorem dL_law__2342 : decode cL_law_ 2342 = .ok (.aload_n 0, 1) := by decide +kernel
theorem eL_law__2342 : zD KL_law_ 2342 (.aload_n 0) 1 2343 := ⟨dL_law__2342, rfl⟩
theorem dL_law__2343 : decode cL_law_ 2343 = .ok (.iload 4, 2) := by decide +kernel
theorem eL_law__2343 : zD KL_law_ 2343 (.iload 4) 2 2345 := ⟨dL_law__2343, rfl⟩
theorem dL_law__2345 : decode cL_law_ 2345 = .ok (.iconst 1, 1) := by decide +kernel
theorem eL_law__2345 : zD KL_law_ 2345 (.iconst 1) 1 2346 := ⟨dL_law__2345, rfl⟩
theorem dL_law__2346 : decode cL_law_ 2346 = .ok (.iadd, 1) := by decide +kernel
theorem eL_law__2346 : zD KL_law_ 2346 (.iadd) 1 2347 := ⟨dL_law__2346, rfl⟩
theorem dL_law__2347 : decode cL_law_ 2347 = .ok (.iaload, 1) := by decide +kernel
theorem eL_law__2347 : zD KL_law_ 2347 (.iaload) 1 2348 := ⟨dL_law__2347, rfl⟩
theorem dL_law__2348 : decode cL_law_ 2348 = .ok (.invokevirtual 281, 3) := by decide +kernel
theorem eL_law__2348 : zD KL_law_ 2348 (.invokevirtual 281) 3 2351 := ⟨dL_law__2348, rfl⟩
theorem dL_law__2351 : decode cL_law_ 2351 = .ok (.if_icmp .eq 1001, 3) := by decide +kernel
theorem eL_law__2351 : zD KL_law_ 2351 (.if_icmp .eq 1001) 3 2354 := ⟨dL_law__2351, rfl⟩
theorem dL_law__2354 : decode cL_law_ 2354 = .ok (.iconst 0, 1) := by decide +kernel
theorem eL_law__2354 : zD KL_law_ 2354 (.iconst 0) 1 2355 := ⟨dL_law__2354, rfl⟩
theorem dL_law__2355 : decode cL_law_ 2355 = .ok (.ireturn, 1) := by decide +kernel
theorem eL_law__2355 : zD KL_law_ 2355 (.ireturn) 1 2356 := ⟨dL_law__2355, rfl⟩
theorem dL_law__2356 : decode cL_law_ 2356 = .ok (.aload_n 1, 1) := by decide +kernel
theorem eL_law__2356 : zD KL_law_ 2356 (.aload_n 1) 1 2357 := ⟨dL_law__2356, rfl⟩
theorem dL_law__2357 : decode cL_law_ 2357 = .ok (.aload_n 0, 1) := by decide +kernel
theorem eL_law__2357 : zD KL_law_ 2357 (.aload_n 0) 1 2358 := ⟨dL_law__2357, rfl⟩
theorem dL_law__2358 : decode cL_law_ 2358 = .ok (.iload 4, 2) := by decide +kernel
theorem eL_law__2358 : zD KL_law_ 2358 (.iload 4) 2 2360 := ⟨dL_law__2358, rfl⟩
theorem dL_law__2360 : decode cL_law_ 2360 = .ok (.iconst 1, 1) := by decide +kernel
theorem eL_law__2360 : zD KL_law_ 2360 (.iconst 1) 1 2361 := ⟨dL_law__2360, rfl⟩
theorem dL_law__2361 : decode cL_law_ 2361 = .ok (.iadd, 1) := by decide +kernel
theorem eL_law__2361 : zD KL_law_ 2361 (.iadd) 1 2362 := ⟨dL_law__2361, rfl⟩
theorem dL_law__2362 : decode cL_law_ 2362 = .ok (.iaload, 1) := by decide +kernel
theorem eL_law__2362 : zD KL_law_ 2362 (.iaload) 1 2363 := ⟨dL_law__2362, rfl⟩
theorem dL_law__2363 : decode cL_law_ 2363 = .ok (.aload_n 3, 1) := by decide +kernel
theorem eL_law__2363 : zD KL_law_ 2363 (.aload_n 3) 1 2364 := ⟨dL_law__2363, rfl⟩
theorem dL_law__2364 : decode cL_law_ 2364 = .ok (.invokestatic 282, 3) := by decide +kernel
theorem eL_law__2364 : zD KL_law_ 2364 (.invokestatic 282) 3 2367 := ⟨dL_law__2364, rfl⟩
theorem dL_law__2367 : decode cL_law_ 2367 = .ok (.istore 5, 2) := by decide +kernel
theorem eL_law__2367 : zD KL_law_ 2367 (.istore 5) 2 2369 := ⟨dL_law__2367, rfl⟩
theorem dL_law__2369 : decode cL_law_ 2369 = .ok (.aload_n 2, 1) := by decide +kernel
theorem eL_law__2369 : zD KL_law_ 2369 (.aload_n 2) 1 2370 := ⟨dL_law__2369, rfl⟩
theorem dL_law__2370 : decode cL_law_ 2370 = .ok (.aload_n 0, 1) := by decide +kernel
theorem eL_law__2370 : zD KL_law_ 2370 (.aload_n 0) 1 2371 := ⟨dL_law__2370, rfl⟩
theorem dL_law__2371 : decode cL_law_ 2371 = .ok (.iload 4, 2) := by decide +kernel
theorem eL_law__2371 : zD KL_law_ 2371 (.iload 4) 2 2373 := ⟨dL_law__2371, rfl⟩
theorem dL_law__2373 : decode cL_law_ 2373 = .ok (.iconst 1, 1) := by decide +kernel
theorem eL_law__2373 : zD KL_law_ 2373 (.iconst 1) 1 2374 := ⟨dL_law__2373, rfl⟩
theorem dL_law__2374 : decode cL_law_ 2374 = .ok (.iadd, 1) := by decide +kernel
theorem eL_law__2374 : zD KL_law_ 2374 (.iadd) 1 2375 := ⟨dL_law__2374, rfl⟩
theorem dL_law__2375 : decode cL_law_ 2375 = .ok (.iaload, 1) := by decide +kernel
theorem eL_law__2375 : zD KL_law_ 2375 (.iaload) 1 2376 := ⟨dL_law__2375, rfl⟩
theorem dL_law__2376 : decode cL_law_ 2376 = .ok (.invokevirtual 284, 3) := by decide +kernel
theorem eL_law__2376 : zD KL_law_ 2376 (.invokevirtual 284) 3 2379 := ⟨dL_law__2376, rfl⟩
theorem dL_law__2379 : decode cL_law_ 2379 = .ok (.istore 6, 2) := by decide +kernel
theorem eL_law__2379 : zD KL_law_ 2379 (.istore 6) 2 2381 := ⟨dL_law__2379, rfl⟩
theorem dL_law__2381 : decode cL_law_ 2381 = .ok (.aload_n 2, 1) := by decide +kernel
theorem eL_law__2381 : zD KL_law_ 2381 (.aload_n 2) 1 2382 := ⟨dL_law__2381, rfl⟩
theorem dL_law__2382 : decode cL_law_ 2382 = .ok (.invokevirtual 170, 3) := by decide +kernel
theorem eL_law__2382 : zD KL_law_ 2382 (.invokevirtual 170) 3 2385 := ⟨dL_law__2382, rfl⟩
theorem dL_law__2385 : decode cL_law_ 2385 = .ok (.iload 5, 2) := by decide +kernel
theorem eL_law__2385 : zD KL_law_ 2385 (.iload 5) 2 2387 := ⟨dL_law__2385, rfl⟩
theorem dL_law__2387 : decode cL_law_ 2387 = .ok (.if_icmp .eq 5, 3) := by decide +kernel
theorem eL_law__2387 : zD KL_law_ 2387 (.if_icmp .eq 5) 3 2390 := ⟨dL_law__2387, rfl⟩
theorem dL_law__2390 : decode cL_law_ 2390 = .ok (.iconst 0, 1) := by decide +kernel
theorem eL_law__2390 : zD KL_law_ 2390 (.iconst 0) 1 2391 := ⟨dL_law__2390, rfl⟩
theorem dL_law__2391 : decode cL_law_ 2391 = .ok (.ireturn, 1) := by decide +kernel
theorem eL_law__2391 : zD KL_law_ 2391 (.ireturn) 1 2392 := ⟨dL_law__2391, rfl⟩
theorem dL_law__2392 : decode cL_law_ 2392 = .ok (.iload 5, 2) := by decide +kernel
theorem eL_law__2392 : zD KL_law_ 2392 (.iload 5) 2 2394 := ⟨dL_law__2392, rfl⟩
theorem dL_law__2394 : decode cL_law_ 2394 = .ok (.ifCond .ne 15, 3) := by decide +kernel
theorem eL_law__2394 : zD KL_law_ 2394 (.ifCond .ne 15) 3 2397 := ⟨dL_law__2394, rfl⟩
theorem dL_law__2397 : decode cL_law_ 2397 = .ok (.aload_n 3, 1) := by decide +kernel
theorem eL_law__2397 : zD KL_law_ 2397 (.aload_n 3) 1 2398 := ⟨dL_law__2397, rfl⟩
theorem dL_law__2398 : decode cL_law_ 2398 = .ok (.iconst 0, 1) := by decide +kernel
theorem eL_law__2398 : zD KL_law_ 2398 (.iconst 0) 1 2399 := ⟨dL_law__2398, rfl⟩
theorem dL_law__2399 : decode cL_law_ 2399 = .ok (.laload, 1) := by decide +kernel
theorem eL_law__2399 : zD KL_law_ 2399 (.laload) 1 2400 := ⟨dL_law__2399, rfl⟩
