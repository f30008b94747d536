/-! what the law's bytes say -/
theorem dL_1986 : decode code 1986 = .ok (.invokevirtual 226, 3) := by decide +kernel
theorem dL_1989 : decode code 1989 = .ok (.if_icmp .eq 546, 3) := by decide +kernel
theorem dL_1992 : decode code 1992 = .ok (.iconst 0, 1) := by decide +kernel
theorem dL_1993 : decode code 1993 = .ok (.ireturn, 1) := by decide +kernel
theorem dL_1994 : decode code 1994 = .ok (.aload_n 1, 1) := by decide +kernel
theorem dL_1995 : decode code 1995 = .ok (.aload_n 0, 1) := by decide +kernel
theorem dL_1996 : decode code 1996 = .ok (.iload_n 3, 1) := by decide +kernel
theorem dL_1997 : decode code 1997 = .ok (.iconst 1, 1) := by decide +kernel
theorem dL_1998 : decode code 1998 = .ok (.iadd, 1) := by decide +kernel
theorem dL_1999 : decode code 1999 = .ok (.iaload, 1) := by decide +kernel
theorem dL_2000 : decode code 2000 = .ok (.aload_n 0, 1) := by decide +kernel
theorem dL_2001 : decode code 2001 = .ok (.iload_n 3, 1) := by decide +kernel
theorem dL_2002 : decode code 2002 = .ok (.iconst 2, 1) := by decide +kernel
theorem dL_2003 : decode code 2003 = .ok (.iadd, 1) := by decide +kernel
theorem dL_2004 : decode code 2004 = .ok (.iaload, 1) := by decide +kernel
theorem dL_2005 : decode code 2005 = .ok (.invokevirtual 227, 3) := by decide +kernel
theorem dL_2008 : decode code 2008 = .ok (.aload_n 2, 1) := by decide +kernel
theorem dL_2009 : decode code 2009 = .ok (.aload_n 0, 1) := by decide +kernel
theorem dL_2010 : decode code 2010 = .ok (.iload_n 3, 1) := by decide +kernel
theorem dL_2011 : decode code 2011 = .ok (.iconst 1, 1) := by decide +kernel
theorem dL_2012 : decode code 2012 = .ok (.iadd, 1) := by decide +kernel
theorem dL_2013 : decode code 2013 = .ok (.iaload, 1) := by decide +kernel
theorem dL_2014 : decode code 2014 = .ok (.aload_n 0, 1) := by decide +kernel
theorem dL_2015 : decode code 2015 = .ok (.iload_n 3, 1) := by decide +kernel
theorem dL_2016 : decode code 2016 = .ok (.iconst 2, 1) := by decide +kernel
theorem dL_2017 : decode code 2017 = .ok (.iadd, 1) := by decide +kernel
theorem dL_2018 : decode code 2018 = .ok (.iaload, 1) := by decide +kernel
theorem dL_2019 : decode code 2019 = .ok (.invokevirtual 230, 3) := by decide +kernel
theorem dL_2022 : decode code 2022 = .ok (.if_icmp .eq 513, 3) := by decide +kernel
theorem dL_2025 : decode code 2025 = .ok (.iconst 0, 1) := by decide +kernel
theorem dL_2026 : decode code 2026 = .ok (.ireturn, 1) := by decide +kernel
theorem dL_2027 : decode code 2027 = .ok (.aload_n 1, 1) := by decide +kernel
theorem dL_2028 : decode code 2028 = .ok (.aload_n 0, 1) := by decide +kernel
theorem dL_2029 : decode code 2029 = .ok (.iload_n 3, 1) := by decide +kernel
theorem dL_2030 : decode code 2030 = .ok (.iconst 1, 1) := by decide +kernel
theorem dL_2031 : decode code 2031 = .ok (.iadd, 1) := by decide +kernel
theorem dL_2032 : decode code 2032 = .ok (.iaload, 1) := by decide +kernel
theorem dL_2033 : decode code 2033 = .ok (.aload_n 0, 1) := by decide +kernel
theorem dL_2034 : decode code 2034 = .ok (.iload_n 3, 1) := by decide +kernel
theorem dL_2035 : decode code 2035 = .ok (.iconst 2, 1) := by decide +kernel
theorem dL_2036 : decode code 2036 = .ok (.iadd, 1) := by decide +kernel
theorem dL_2037 : decode code 2037 = .ok (.iaload, 1) := by decide +kernel
theorem dL_2038 : decode code 2038 = .ok (.invokevirtual 231, 3) := by decide +kernel
theorem dL_2041 : decode code 2041 = .ok (.aload_n 2, 1) := by decide +kernel
theorem dL_2042 : decode code 2042 = .ok (.aload_n 0, 1) := by decide +kernel
theorem dL_2043 : decode code 2043 = .ok (.iload_n 3, 1) := by decide +kernel
theorem dL_2044 : decode code 2044 = .ok (.iconst 1, 1) := by decide +kernel
theorem dL_2045 : decode code 2045 = .ok (.iadd, 1) := by decide +kernel
theorem dL_2046 : decode code 2046 = .ok (.iaload, 1) := by decide +kernel
theorem dL_2047 : decode code 2047 = .ok (.aload_n 0, 1) := by decide +kernel
theorem dL_2048 : decode code 2048 = .ok (.iload_n 3, 1) := by decide +kernel
theorem dL_2049 : decode code 2049 = .ok (.iconst 2, 1) := by decide +kernel
theorem dL_2050 : decode code 2050 = .ok (.iadd, 1) := by decide +kernel
theorem dL_2051 : decode code 2051 = .ok (.iaload, 1) := by decide +kernel
theorem dL_2052 : decode code 2052 = .ok (.invokevirtual 234, 3) := by decide +kernel
theorem dL_2055 : decode code 2055 = .ok (.if_icmp .eq 480, 3) := by decide +kernel
theorem dL_2058 : decode code 2058 = .ok (.iconst 0, 1) := by decide +kernel
theorem dL_2059 : decode code 2059 = .ok (.ireturn, 1) := by decide +kernel
theorem dL_2060 : decode code 2060 = .ok (.aload_n 1, 1) := by decide +kernel
theorem dL_2061 : decode code 2061 = .ok (.aload_n 0, 1) := by decide +kernel
theorem dL_2062 : decode code 2062 = .ok (.iload_n 3, 1) := by decide +kernel
theorem dL_2063 : decode code 2063 = .ok (.iconst 1, 1) := by decide +kernel
theorem dL_2064 : decode code 2064 = .ok (.iadd, 1) := by decide +kernel
theorem dL_2065 : decode code 2065 = .ok (.iaload, 1) := by decide +kernel
theorem dL_2066 : decode code 2066 = .ok (.aload_n 0, 1) := by decide +kernel
theorem dL_2067 : decode code 2067 = .ok (.iload_n 3, 1) := by decide +kernel
theorem dL_2068 : decode code 2068 = .ok (.iconst 2, 1) := by decide +kernel
theorem dL_2069 : decode code 2069 = .ok (.iadd, 1) := by decide +kernel
theorem dL_2070 : decode code 2070 = .ok (.iaload, 1) := by decide +kernel
theorem dL_2071 : decode code 2071 = .ok (.invokevirtual 235, 3) := by decide +kernel
theorem dL_2074 : decode code 2074 = .ok (.aload_n 2, 1) := by decide +kernel
theorem dL_2075 : decode code 2075 = .ok (.aload_n 0, 1) := by decide +kernel
theorem dL_2076 : decode code 2076 = .ok (.iload_n 3, 1) := by decide +kernel
theorem dL_2077 : decode code 2077 = .ok (.iconst 1, 1) := by decide +kernel
theorem dL_2078 : decode code 2078 = .ok (.iadd, 1) := by decide +kernel
theorem dL_2079 : decode code 2079 = .ok (.iaload, 1) := by decide +kernel
theorem dL_2080 : decode code 2080 = .ok (.aload_n 0, 1) := by decide +kernel
theorem dL_2081 : decode code 2081 = .ok (.iload_n 3, 1) := by decide +kernel
theorem dL_2082 : decode code 2082 = .ok (.iconst 2, 1) := by decide +kernel
theorem dL_2083 : decode code 2083 = .ok (.iadd, 1) := by decide +kernel
theorem dL_2084 : decode code 2084 = .ok (.iaload, 1) := by decide +kernel
theorem dL_2085 : decode code 2085 = .ok (.invokevirtual 238, 3) := by decide +kernel
theorem dL_2088 : decode code 2088 = .ok (.if_icmp .eq 447, 3) := by decide +kernel
theorem dL_2091 : decode code 2091 = .ok (.iconst 0, 1) := by decide +kernel
theorem dL_2092 : decode code 2092 = .ok (.ireturn, 1) := by decide +kernel
theorem dL_2093 : decode code 2093 = .ok (.aload_n 1, 1) := by decide +kernel
theorem dL_2094 : decode code 2094 = .ok (.aload_n 0, 1) := by decide +kernel
theorem dL_2095 : decode code 2095 = .ok (.iload_n 3, 1) := by decide +kernel
theorem dL_2096 : decode code 2096 = .ok (.iconst 1, 1) := by decide +kernel
theorem dL_2097 : decode code 2097 = .ok (.iadd, 1) := by decide +kernel
theorem dL_2098 : decode code 2098 = .ok (.iaload, 1) := by decide +kernel
theorem dL_2099 : decode code 2099 = .ok (.invokevirtual 239, 3) := by decide +kernel
theorem dL_2102 : decode code 2102 = .ok (.aload_n 2, 1) := by decide +kernel
theorem dL_2103 : decode code 2103 = .ok (.aload_n 0, 1) := by decide +kernel
theorem dL_2104 : decode code 2104 = .ok (.iload_n 3, 1) := by decide +kernel
theorem dL_2105 : decode code 2105 = .ok (.iconst 1, 1) := by decide +kernel
theorem dL_2106 : decode code 2106 = .ok (.iadd, 1) := by decide +kernel
theorem dL_2107 : decode code 2107 = .ok (.iaload, 1) := by decide +kernel
theorem dL_2108 : decode code 2108 = .ok (.invokevirtual 242, 3) := by decide +kernel
theorem dL_2111 : decode code 2111 = .ok (.if_icmp .eq 424, 3) := by decide +kernel
theorem dL_2114 : decode code 2114 = .ok (.iconst 0, 1) := by decide +kernel
theorem dL_2115 : decode code 2115 = .ok (.ireturn, 1) := by decide +kernel
theorem dL_2116 : decode code 2116 = .ok (.aload_n 1, 1) := by decide +kernel
theorem dL_2117 : decode code 2117 = .ok (.aload_n 0, 1) := by decide +kernel
theorem dL_2118 : decode code 2118 = .ok (.iload_n 3, 1) := by decide +kernel
theorem dL_2119 : decode code 2119 = .ok (.iconst 1, 1) := by decide +kernel
theorem dL_2120 : decode code 2120 = .ok (.iadd, 1) := by decide +kernel
theorem dL_2121 : decode code 2121 = .ok (.iaload, 1) := by decide +kernel
theorem dL_2122 : decode code 2122 = .ok (.aload_n 0, 1) := by decide +kernel
theorem dL_2123 : decode code 2123 = .ok (.iload_n 3, 1) := by decide +kernel
theorem dL_2124 : decode code 2124 = .ok (.iconst 2, 1) := by decide +kernel
theorem dL_2125 : decode code 2125 = .ok (.iadd, 1) := by decide +kernel
theorem dL_2126 : decode code 2126 = .ok (.iaload, 1) := by decide +kernel
theorem dL_2127 : decode code 2127 = .ok (.aload_n 0, 1) := by decide +kernel
theorem dL_2128 : decode code 2128 = .ok (.iload_n 3, 1) := by decide +kernel
theorem dL_2129 : decode code 2129 = .ok (.iconst 3, 1) := by decide +kernel
theorem dL_2130 : decode code 2130 = .ok (.iadd, 1) := by decide +kernel
theorem dL_2131 : decode code 2131 = .ok (.iaload, 1) := by decide +kernel
theorem dL_2132 : decode code 2132 = .ok (.invokevirtual 243, 3) := by decide +kernel
theorem dL_2135 : decode code 2135 = .ok (.aload_n 2, 1) := by decide +kernel
theorem dL_2136 : decode code 2136 = .ok (.aload_n 0, 1) := by decide +kernel
theorem dL_2137 : decode code 2137 = .ok (.iload_n 3, 1) := by decide +kernel
theorem dL_2138 : decode code 2138 = .ok (.iconst 1, 1) := by decide +kernel
theorem dL_2139 : decode code 2139 = .ok (.iadd, 1) := by decide +kernel
theorem dL_2140 : decode code 2140 = .ok (.iaload, 1) := by decide +kernel
theorem dL_2141 : decode code 2141 = .ok (.aload_n 0, 1) := by decide +kernel
theorem dL_2142 : decode code 2142 = .ok (.iload_n 3, 1) := by decide +kernel
theorem dL_2143 : decode code 2143 = .ok (.iconst 2, 1) := by decide +kernel
theorem dL_2144 : decode code 2144 = .ok (.iadd, 1) := by decide +kernel
theorem dL_2145 : decode code 2145 = .ok (.iaload, 1) := by decide +kernel
theorem dL_2146 : decode code 2146 = .ok (.aload_n 0, 1) := by decide +kernel
theorem dL_2147 : decode code 2147 = .ok (.iload_n 3, 1) := by decide +kernel
theorem dL_2148 : decode code 2148 = .ok (.iconst 3, 1) := by decide +kernel
theorem dL_2149 : decode code 2149 = .ok (.iadd, 1) := by decide +kernel
theorem dL_2150 : decode code 2150 = .ok (.iaload, 1) := by decide +kernel
theorem dL_2151 : decode code 2151 = .ok (.invokevirtual 246, 3) := by decide +kernel
theorem dL_2154 : decode code 2154 = .ok (.if_icmp .eq 381, 3) := by decide +kernel
theorem dL_2157 : decode code 2157 = .ok (.iconst 0, 1) := by decide +kernel
theorem dL_2158 : decode code 2158 = .ok (.ireturn, 1) := by decide +kernel
theorem dL_2159 : decode code 2159 = .ok (.aload_n 1, 1) := by decide +kernel
theorem dL_2160 : decode code 2160 = .ok (.aload_n 0, 1) := by decide +kernel
theorem dL_2161 : decode code 2161 = .ok (.iload_n 3, 1) := by decide +kernel
theorem dL_2162 : decode code 2162 = .ok (.iconst 1, 1) := by decide +kernel
theorem dL_2163 : decode code 2163 = .ok (.iadd, 1) := by decide +kernel
theorem dL_2164 : decode code 2164 = .ok (.iaload, 1) := by decide +kernel
theorem dL_2165 : decode code 2165 = .ok (.aload_n 0, 1) := by decide +kernel
theorem dL_2166 : decode code 2166 = .ok (.iload_n 3, 1) := by decide +kernel
theorem dL_2167 : decode code 2167 = .ok (.iconst 2, 1) := by decide +kernel
theorem dL_2168 : decode code 2168 = .ok (.iadd, 1) := by decide +kernel
theorem dL_2169 : decode code 2169 = .ok (.iaload, 1) := by decide +kernel
theorem dL_2170 : decode code 2170 = .ok (.aload_n 0, 1) := by decide +kernel
theorem dL_2171 : decode code 2171 = .ok (.iload_n 3, 1) := by decide +kernel
theorem dL_2172 : decode code 2172 = .ok (.iconst 3, 1) := by decide +kernel
theorem dL_2173 : decode code 2173 = .ok (.iadd, 1) := by decide +kernel
theorem dL_2174 : decode code 2174 = .ok (.iaload, 1) := by decide +kernel
theorem dL_2175 : decode code 2175 = .ok (.aload_n 0, 1) := by decide +kernel
theorem dL_2176 : decode code 2176 = .ok (.iload_n 3, 1) := by decide +kernel
theorem dL_2177 : decode code 2177 = .ok (.iconst 4, 1) := by decide +kernel
theorem dL_2178 : decode code 2178 = .ok (.iadd, 1) := by decide +kernel
theorem dL_2179 : decode code 2179 = .ok (.iaload, 1) := by decide +kernel
theorem dL_2180 : decode code 2180 = .ok (.invokevirtual 247, 3) := by decide +kernel
theorem dL_2183 : decode code 2183 = .ok (.aload_n 2, 1) := by decide +kernel
theorem dL_2184 : decode code 2184 = .ok (.aload_n 0, 1) := by decide +kernel
theorem dL_2185 : decode code 2185 = .ok (.iload_n 3, 1) := by decide +kernel
theorem dL_2186 : decode code 2186 = .ok (.iconst 1, 1) := by decide +kernel
theorem dL_2187 : decode code 2187 = .ok (.iadd, 1) := by decide +kernel
theorem dL_2188 : decode code 2188 = .ok (.iaload, 1) := by decide +kernel
theorem dL_2189 : decode code 2189 = .ok (.aload_n 0, 1) := by decide +kernel
theorem dL_2190 : decode code 2190 = .ok (.iload_n 3, 1) := by decide +kernel
theorem dL_2191 : decode code 2191 = .ok (.iconst 2, 1) := by decide +kernel
theorem dL_2192 : decode code 2192 = .ok (.iadd, 1) := by decide +kernel
theorem dL_2193 : decode code 2193 = .ok (.iaload, 1) := by decide +kernel
theorem dL_2194 : decode code 2194 = .ok (.aload_n 0, 1) := by decide +kernel
theorem dL_2195 : decode code 2195 = .ok (.iload_n 3, 1) := by decide +kernel
theorem dL_2196 : decode code 2196 = .ok (.iconst 3, 1) := by decide +kernel
theorem dL_2197 : decode code 2197 = .ok (.iadd, 1) := by decide +kernel
theorem dL_2198 : decode code 2198 = .ok (.iaload, 1) := by decide +kernel
theorem dL_2199 : decode code 2199 = .ok (.aload_n 0, 1) := by decide +kernel
theorem dL_2200 : decode code 2200 = .ok (.iload_n 3, 1) := by decide +kernel
theorem dL_2201 : decode code 2201 = .ok (.iconst 4, 1) := by decide +kernel
theorem dL_2202 : decode code 2202 = .ok (.iadd, 1) := by decide +kernel
theorem dL_2203 : decode code 2203 = .ok (.iaload, 1) := by decide +kernel
theorem dL_2204 : decode code 2204 = .ok (.invokevirtual 250, 3) := by decide +kernel
theorem dL_2207 : decode code 2207 = .ok (.if_icmp .eq 328, 3) := by decide +kernel
theorem dL_2210 : decode code 2210 = .ok (.iconst 0, 1) := by decide +kernel
theorem dL_2211 : decode code 2211 = .ok (.ireturn, 1) := by decide +kernel
theorem dL_2212 : decode code 2212 = .ok (.aload_n 1, 1) := by decide +kernel
theorem dL_2213 : decode code 2213 = .ok (.aload_n 0, 1) := by decide +kernel
theorem dL_2214 : decode code 2214 = .ok (.iload_n 3, 1) := by decide +kernel
theorem dL_2215 : decode code 2215 = .ok (.iconst 1, 1) := by decide +kernel
theorem dL_2216 : decode code 2216 = .ok (.iadd, 1) := by decide +kernel
theorem dL_2217 : decode code 2217 = .ok (.iaload, 1) := by decide +kernel
theorem dL_2218 : decode code 2218 = .ok (.aload_n 0, 1) := by decide +kernel
theorem dL_2219 : decode code 2219 = .ok (.iload_n 3, 1) := by decide +kernel
theorem dL_2220 : decode code 2220 = .ok (.iconst 2, 1) := by decide +kernel
theorem dL_2221 : decode code 2221 = .ok (.iadd, 1) := by decide +kernel
theorem dL_2222 : decode code 2222 = .ok (.iaload, 1) := by decide +kernel
theorem dL_2223 : decode code 2223 = .ok (.aload_n 0, 1) := by decide +kernel
theorem dL_2224 : decode code 2224 = .ok (.iload_n 3, 1) := by decide +kernel
theorem dL_2225 : decode code 2225 = .ok (.iconst 3, 1) := by decide +kernel
theorem dL_2226 : decode code 2226 = .ok (.iadd, 1) := by decide +kernel
theorem dL_2227 : decode code 2227 = .ok (.iaload, 1) := by decide +kernel
theorem dL_2228 : decode code 2228 = .ok (.aload_n 0, 1) := by decide +kernel
theorem dL_2229 : decode code 2229 = .ok (.iload_n 3, 1) := by decide +kernel
theorem dL_2230 : decode code 2230 = .ok (.iconst 4, 1) := by decide +kernel
theorem dL_2231 : decode code 2231 = .ok (.iadd, 1) := by decide +kernel
theorem dL_2232 : decode code 2232 = .ok (.iaload, 1) := by decide +kernel
theorem dL_2233 : decode code 2233 = .ok (.aload_n 0, 1) := by decide +kernel
theorem dL_2234 : decode code 2234 = .ok (.iload_n 3, 1) := by decide +kernel
theorem dL_2235 : decode code 2235 = .ok (.iconst 5, 1) := by decide +kernel
theorem dL_2236 : decode code 2236 = .ok (.iadd, 1) := by decide +kernel
theorem dL_2237 : decode code 2237 = .ok (.iaload, 1) := by decide +kernel
theorem dL_2238 : decode code 2238 = .ok (.aload_n 0, 1) := by decide +kernel
theorem dL_2239 : decode code 2239 = .ok (.iload_n 3, 1) := by decide +kernel
theorem dL_2240 : decode code 2240 = .ok (.bipush 6, 2) := by decide +kernel
theorem dL_2242 : decode code 2242 = .ok (.iadd, 1) := by decide +kernel
theorem dL_2243 : decode code 2243 = .ok (.iaload, 1) := by decide +kernel
theorem dL_2244 : decode code 2244 = .ok (.invokevirtual 251, 3) := by decide +kernel
theorem dL_2247 : decode code 2247 = .ok (.aload_n 2, 1) := by decide +kernel
theorem dL_2248 : decode code 2248 = .ok (.aload_n 0, 1) := by decide +kernel
theorem dL_2249 : decode code 2249 = .ok (.iload_n 3, 1) := by decide +kernel
theorem dL_2250 : decode code 2250 = .ok (.iconst 1, 1) := by decide +kernel
theorem dL_2251 : decode code 2251 = .ok (.iadd, 1) := by decide +kernel
theorem dL_2252 : decode code 2252 = .ok (.iaload, 1) := by decide +kernel
theorem dL_2253 : decode code 2253 = .ok (.aload_n 0, 1) := by decide +kernel
theorem dL_2254 : decode code 2254 = .ok (.iload_n 3, 1) := by decide +kernel
theorem dL_2255 : decode code 2255 = .ok (.iconst 2, 1) := by decide +kernel
theorem dL_2256 : decode code 2256 = .ok (.iadd, 1) := by decide +kernel
theorem dL_2257 : decode code 2257 = .ok (.iaload, 1) := by decide +kernel
theorem dL_2258 : decode code 2258 = .ok (.aload_n 0, 1) := by decide +kernel
theorem dL_2259 : decode code 2259 = .ok (.iload_n 3, 1) := by decide +kernel
theorem dL_2260 : decode code 2260 = .ok (.iconst 3, 1) := by decide +kernel
theorem dL_2261 : decode code 2261 = .ok (.iadd, 1) := by decide +kernel
theorem dL_2262 : decode code 2262 = .ok (.iaload, 1) := by decide +kernel
theorem dL_2263 : decode code 2263 = .ok (.aload_n 0, 1) := by decide +kernel
theorem dL_2264 : decode code 2264 = .ok (.iload_n 3, 1) := by decide +kernel
theorem dL_2265 : decode code 2265 = .ok (.iconst 4, 1) := by decide +kernel
theorem dL_2266 : decode code 2266 = .ok (.iadd, 1) := by decide +kernel
theorem dL_2267 : decode code 2267 = .ok (.iaload, 1) := by decide +kernel
theorem dL_2268 : decode code 2268 = .ok (.aload_n 0, 1) := by decide +kernel
theorem dL_2269 : decode code 2269 = .ok (.iload_n 3, 1) := by decide +kernel
theorem dL_2270 : decode code 2270 = .ok (.iconst 5, 1) := by decide +kernel
theorem dL_2271 : decode code 2271 = .ok (.iadd, 1) := by decide +kernel
theorem dL_2272 : decode code 2272 = .ok (.iaload, 1) := by decide +kernel
theorem dL_2273 : decode code 2273 = .ok (.aload_n 0, 1) := by decide +kernel
theorem dL_2274 : decode code 2274 = .ok (.iload_n 3, 1) := by decide +kernel
theorem dL_2275 : decode code 2275 = .ok (.bipush 6, 2) := by decide +kernel
theorem dL_2277 : decode code 2277 = .ok (.iadd, 1) := by decide +kernel
theorem dL_2278 : decode code 2278 = .ok (.iaload, 1) := by decide +kernel
theorem dL_2279 : decode code 2279 = .ok (.invokevirtual 255, 3) := by decide +kernel
theorem dL_2282 : decode code 2282 = .ok (.if_icmp .eq 253, 3) := by decide +kernel
theorem dL_2285 : decode code 2285 = .ok (.iconst 0, 1) := by decide +kernel
theorem dL_2286 : decode code 2286 = .ok (.ireturn, 1) := by decide +kernel
theorem dL_2287 : decode code 2287 = .ok (.aload_n 1, 1) := by decide +kernel
theorem dL_2288 : decode code 2288 = .ok (.aload_n 0, 1) := by decide +kernel
theorem dL_2289 : decode code 2289 = .ok (.iload_n 3, 1) := by decide +kernel
theorem dL_2290 : decode code 2290 = .ok (.iconst 1, 1) := by decide +kernel
theorem dL_2291 : decode code 2291 = .ok (.iadd, 1) := by decide +kernel
theorem dL_2292 : decode code 2292 = .ok (.iaload, 1) := by decide +kernel
theorem dL_2293 : decode code 2293 = .ok (.invokevirtual 256, 3) := by decide +kernel
theorem dL_2296 : decode code 2296 = .ok (.aload_n 2, 1) := by decide +kernel
theorem dL_2297 : decode code 2297 = .ok (.aload_n 0, 1) := by decide +kernel
theorem dL_2298 : decode code 2298 = .ok (.iload_n 3, 1) := by decide +kernel
theorem dL_2299 : decode code 2299 = .ok (.iconst 1, 1) := by decide +kernel
theorem dL_2300 : decode code 2300 = .ok (.iadd, 1) := by decide +kernel
theorem dL_2301 : decode code 2301 = .ok (.iaload, 1) := by decide +kernel
theorem dL_2302 : decode code 2302 = .ok (.invokevirtual 259, 3) := by decide +kernel
theorem dL_2305 : decode code 2305 = .ok (.if_icmp .eq 230, 3) := by decide +kernel
theorem dL_2308 : decode code 2308 = .ok (.iconst 0, 1) := by decide +kernel
theorem dL_2309 : decode code 2309 = .ok (.ireturn, 1) := by decide +kernel
theorem dL_2310 : decode code 2310 = .ok (.aload_n 1, 1) := by decide +kernel
theorem dL_2311 : decode code 2311 = .ok (.aload_n 0, 1) := by decide +kernel
theorem dL_2312 : decode code 2312 = .ok (.iload_n 3, 1) := by decide +kernel
theorem dL_2313 : decode code 2313 = .ok (.iconst 1, 1) := by decide +kernel
theorem dL_2314 : decode code 2314 = .ok (.iadd, 1) := by decide +kernel
theorem dL_2315 : decode code 2315 = .ok (.iaload, 1) := by decide +kernel
theorem dL_2316 : decode code 2316 = .ok (.invokevirtual 260, 3) := by decide +kernel
theorem dL_2319 : decode code 2319 = .ok (.aload_n 2, 1) := by decide +kernel
theorem dL_2320 : decode code 2320 = .ok (.aload_n 0, 1) := by decide +kernel
theorem dL_2321 : decode code 2321 = .ok (.iload_n 3, 1) := by decide +kernel
theorem dL_2322 : decode code 2322 = .ok (.iconst 1, 1) := by decide +kernel
theorem dL_2323 : decode code 2323 = .ok (.iadd, 1) := by decide +kernel
theorem dL_2324 : decode code 2324 = .ok (.iaload, 1) := by decide +kernel
theorem dL_2325 : decode code 2325 = .ok (.invokevirtual 263, 3) := by decide +kernel
theorem dL_2328 : decode code 2328 = .ok (.if_icmp .eq 207, 3) := by decide +kernel
theorem dL_2331 : decode code 2331 = .ok (.iconst 0, 1) := by decide +kernel
theorem dL_2332 : decode code 2332 = .ok (.ireturn, 1) := by decide +kernel
theorem dL_2333 : decode code 2333 = .ok (.aload_n 1, 1) := by decide +kernel
theorem dL_2334 : decode code 2334 = .ok (.aload_n 0, 1) := by decide +kernel
theorem dL_2335 : decode code 2335 = .ok (.iload_n 3, 1) := by decide +kernel
theorem dL_2336 : decode code 2336 = .ok (.iconst 1, 1) := by decide +kernel
theorem dL_2337 : decode code 2337 = .ok (.iadd, 1) := by decide +kernel
theorem dL_2338 : decode code 2338 = .ok (.iaload, 1) := by decide +kernel
theorem dL_2339 : decode code 2339 = .ok (.invokevirtual 264, 3) := by decide +kernel
theorem dL_2342 : decode code 2342 = .ok (.aload_n 2, 1) := by decide +kernel
theorem dL_2343 : decode code 2343 = .ok (.aload_n 0, 1) := by decide +kernel
theorem dL_2344 : decode code 2344 = .ok (.iload_n 3, 1) := by decide +kernel
theorem dL_2345 : decode code 2345 = .ok (.iconst 1, 1) := by decide +kernel
theorem dL_2346 : decode code 2346 = .ok (.iadd, 1) := by decide +kernel
theorem dL_2347 : decode code 2347 = .ok (.iaload, 1) := by decide +kernel
theorem dL_2348 : decode code 2348 = .ok (.invokevirtual 267, 3) := by decide +kernel
theorem dL_2351 : decode code 2351 = .ok (.if_icmp .eq 184, 3) := by decide +kernel
theorem dL_2354 : decode code 2354 = .ok (.iconst 0, 1) := by decide +kernel
theorem dL_2355 : decode code 2355 = .ok (.ireturn, 1) := by decide +kernel
theorem dL_2356 : decode code 2356 = .ok (.aload_n 1, 1) := by decide +kernel
theorem dL_2357 : decode code 2357 = .ok (.aload_n 0, 1) := by decide +kernel
theorem dL_2358 : decode code 2358 = .ok (.iload_n 3, 1) := by decide +kernel
theorem dL_2359 : decode code 2359 = .ok (.iconst 1, 1) := by decide +kernel
theorem dL_2360 : decode code 2360 = .ok (.iadd, 1) := by decide +kernel
theorem dL_2361 : decode code 2361 = .ok (.iaload, 1) := by decide +kernel
theorem dL_2362 : decode code 2362 = .ok (.aload_n 0, 1) := by decide +kernel
theorem dL_2363 : decode code 2363 = .ok (.iload_n 3, 1) := by decide +kernel
theorem dL_2364 : decode code 2364 = .ok (.iconst 2, 1) := by decide +kernel
theorem dL_2365 : decode code 2365 = .ok (.iadd, 1) := by decide +kernel
theorem dL_2366 : decode code 2366 = .ok (.iaload, 1) := by decide +kernel
theorem dL_2367 : decode code 2367 = .ok (.aload_n 0, 1) := by decide +kernel
theorem dL_2368 : decode code 2368 = .ok (.iload_n 3, 1) := by decide +kernel
theorem dL_2369 : decode code 2369 = .ok (.iconst 3, 1) := by decide +kernel
theorem dL_2370 : decode code 2370 = .ok (.iadd, 1) := by decide +kernel
theorem dL_2371 : decode code 2371 = .ok (.iaload, 1) := by decide +kernel
theorem dL_2372 : decode code 2372 = .ok (.invokevirtual 268, 3) := by decide +kernel
theorem dL_2375 : decode code 2375 = .ok (.aload_n 2, 1) := by decide +kernel
theorem dL_2376 : decode code 2376 = .ok (.aload_n 0, 1) := by decide +kernel
theorem dL_2377 : decode code 2377 = .ok (.iload_n 3, 1) := by decide +kernel
theorem dL_2378 : decode code 2378 = .ok (.iconst 1, 1) := by decide +kernel
theorem dL_2379 : decode code 2379 = .ok (.iadd, 1) := by decide +kernel
theorem dL_2380 : decode code 2380 = .ok (.iaload, 1) := by decide +kernel
theorem dL_2381 : decode code 2381 = .ok (.aload_n 0, 1) := by decide +kernel
theorem dL_2382 : decode code 2382 = .ok (.iload_n 3, 1) := by decide +kernel
theorem dL_2383 : decode code 2383 = .ok (.iconst 2, 1) := by decide +kernel
theorem dL_2384 : decode code 2384 = .ok (.iadd, 1) := by decide +kernel
theorem dL_2385 : decode code 2385 = .ok (.iaload, 1) := by decide +kernel
theorem dL_2386 : decode code 2386 = .ok (.aload_n 0, 1) := by decide +kernel
theorem dL_2387 : decode code 2387 = .ok (.iload_n 3, 1) := by decide +kernel
theorem dL_2388 : decode code 2388 = .ok (.iconst 3, 1) := by decide +kernel
theorem dL_2389 : decode code 2389 = .ok (.iadd, 1) := by decide +kernel
theorem dL_2390 : decode code 2390 = .ok (.iaload, 1) := by decide +kernel
theorem dL_2391 : decode code 2391 = .ok (.invokevirtual 271, 3) := by decide +kernel
theorem dL_2394 : decode code 2394 = .ok (.if_icmp .eq 141, 3) := by decide +kernel
theorem dL_2397 : decode code 2397 = .ok (.iconst 0, 1) := by decide +kernel
theorem dL_2398 : decode code 2398 = .ok (.ireturn, 1) := by decide +kernel
theorem dL_2399 : decode code 2399 = .ok (.aload_n 1, 1) := by decide +kernel
theorem dL_2400 : decode code 2400 = .ok (.aload_n 0, 1) := by decide +kernel
theorem dL_2401 : decode code 2401 = .ok (.iload_n 3, 1) := by decide +kernel
theorem dL_2402 : decode code 2402 = .ok (.iconst 1, 1) := by decide +kernel
theorem dL_2403 : decode code 2403 = .ok (.iadd, 1) := by decide +kernel
theorem dL_2404 : decode code 2404 = .ok (.iaload, 1) := by decide +kernel
theorem dL_2405 : decode code 2405 = .ok (.aload_n 0, 1) := by decide +kernel
theorem dL_2406 : decode code 2406 = .ok (.iload_n 3, 1) := by decide +kernel
theorem dL_2407 : decode code 2407 = .ok (.iconst 2, 1) := by decide +kernel
theorem dL_2408 : decode code 2408 = .ok (.iadd, 1) := by decide +kernel
theorem dL_2409 : decode code 2409 = .ok (.iaload, 1) := by decide +kernel
theorem dL_2410 : decode code 2410 = .ok (.aload_n 0, 1) := by decide +kernel
theorem dL_2411 : decode code 2411 = .ok (.iload_n 3, 1) := by decide +kernel
theorem dL_2412 : decode code 2412 = .ok (.iconst 3, 1) := by decide +kernel
theorem dL_2413 : decode code 2413 = .ok (.iadd, 1) := by decide +kernel
theorem dL_2414 : decode code 2414 = .ok (.iaload, 1) := by decide +kernel
theorem dL_2415 : decode code 2415 = .ok (.i2l, 1) := by decide +kernel
theorem dL_2416 : decode code 2416 = .ok (.bipush 32, 2) := by decide +kernel
theorem dL_2418 : decode code 2418 = .ok (.lshl, 1) := by decide +kernel
theorem dL_2419 : decode code 2419 = .ok (.aload_n 0, 1) := by decide +kernel
theorem dL_2420 : decode code 2420 = .ok (.iload_n 3, 1) := by decide +kernel
theorem dL_2421 : decode code 2421 = .ok (.iconst 4, 1) := by decide +kernel
theorem dL_2422 : decode code 2422 = .ok (.iadd, 1) := by decide +kernel
theorem dL_2423 : decode code 2423 = .ok (.iaload, 1) := by decide +kernel
theorem dL_2424 : decode code 2424 = .ok (.i2l, 1) := by decide +kernel
theorem dL_2425 : decode code 2425 = .ok (.ldc2_w 272, 3) := by decide +kernel
theorem dL_2428 : decode code 2428 = .ok (.land, 1) := by decide +kernel
theorem dL_2429 : decode code 2429 = .ok (.lor, 1) := by decide +kernel
theorem dL_2430 : decode code 2430 = .ok (.invokevirtual 274, 3) := by decide +kernel
theorem dL_2433 : decode code 2433 = .ok (.aload_n 2, 1) := by decide +kernel
theorem dL_2434 : decode code 2434 = .ok (.aload_n 0, 1) := by decide +kernel
theorem dL_2435 : decode code 2435 = .ok (.iload_n 3, 1) := by decide +kernel
theorem dL_2436 : decode code 2436 = .ok (.iconst 1, 1) := by decide +kernel
theorem dL_2437 : decode code 2437 = .ok (.iadd, 1) := by decide +kernel
theorem dL_2438 : decode code 2438 = .ok (.iaload, 1) := by decide +kernel
theorem dL_2439 : decode code 2439 = .ok (.aload_n 0, 1) := by decide +kernel
theorem dL_2440 : decode code 2440 = .ok (.iload_n 3, 1) := by decide +kernel
theorem dL_2441 : decode code 2441 = .ok (.iconst 2, 1) := by decide +kernel
theorem dL_2442 : decode code 2442 = .ok (.iadd, 1) := by decide +kernel
theorem dL_2443 : decode code 2443 = .ok (.iaload, 1) := by decide +kernel
theorem dL_2444 : decode code 2444 = .ok (.aload_n 0, 1) := by decide +kernel
theorem dL_2445 : decode code 2445 = .ok (.iload_n 3, 1) := by decide +kernel
theorem dL_2446 : decode code 2446 = .ok (.iconst 3, 1) := by decide +kernel
theorem dL_2447 : decode code 2447 = .ok (.iadd, 1) := by decide +kernel
theorem dL_2448 : decode code 2448 = .ok (.iaload, 1) := by decide +kernel
theorem dL_2449 : decode code 2449 = .ok (.i2l, 1) := by decide +kernel
theorem dL_2450 : decode code 2450 = .ok (.bipush 32, 2) := by decide +kernel
theorem dL_2452 : decode code 2452 = .ok (.lshl, 1) := by decide +kernel
theorem dL_2453 : decode code 2453 = .ok (.aload_n 0, 1) := by decide +kernel
theorem dL_2454 : decode code 2454 = .ok (.iload_n 3, 1) := by decide +kernel
theorem dL_2455 : decode code 2455 = .ok (.iconst 4, 1) := by decide +kernel
theorem dL_2456 : decode code 2456 = .ok (.iadd, 1) := by decide +kernel
theorem dL_2457 : decode code 2457 = .ok (.iaload, 1) := by decide +kernel
theorem dL_2458 : decode code 2458 = .ok (.i2l, 1) := by decide +kernel
theorem dL_2459 : decode code 2459 = .ok (.ldc2_w 272, 3) := by decide +kernel
theorem dL_2462 : decode code 2462 = .ok (.land, 1) := by decide +kernel
theorem dL_2463 : decode code 2463 = .ok (.lor, 1) := by decide +kernel
theorem dL_2464 : decode code 2464 = .ok (.invokevirtual 278, 3) := by decide +kernel
theorem dL_2467 : decode code 2467 = .ok (.if_icmp .eq 68, 3) := by decide +kernel
theorem dL_2470 : decode code 2470 = .ok (.iconst 0, 1) := by decide +kernel
theorem dL_2471 : decode code 2471 = .ok (.ireturn, 1) := by decide +kernel
theorem dL_2472 : decode code 2472 = .ok (.aload_n 1, 1) := by decide +kernel
theorem dL_2473 : decode code 2473 = .ok (.aload_n 0, 1) := by decide +kernel
theorem dL_2474 : decode code 2474 = .ok (.iload_n 3, 1) := by decide +kernel
theorem dL_2475 : decode code 2475 = .ok (.iconst 1, 1) := by decide +kernel
theorem dL_2476 : decode code 2476 = .ok (.iadd, 1) := by decide +kernel
theorem dL_2477 : decode code 2477 = .ok (.iaload, 1) := by decide +kernel
theorem dL_2478 : decode code 2478 = .ok (.aload_n 0, 1) := by decide +kernel
theorem dL_2479 : decode code 2479 = .ok (.iload_n 3, 1) := by decide +kernel
theorem dL_2480 : decode code 2480 = .ok (.iconst 2, 1) := by decide +kernel
theorem dL_2481 : decode code 2481 = .ok (.iadd, 1) := by decide +kernel
theorem dL_2482 : decode code 2482 = .ok (.iaload, 1) := by decide +kernel
theorem dL_2483 : decode code 2483 = .ok (.aload_n 0, 1) := by decide +kernel
theorem dL_2484 : decode code 2484 = .ok (.iload_n 3, 1) := by decide +kernel
theorem dL_2485 : decode code 2485 = .ok (.iconst 3, 1) := by decide +kernel
theorem dL_2486 : decode code 2486 = .ok (.iadd, 1) := by decide +kernel
theorem dL_2487 : decode code 2487 = .ok (.iaload, 1) := by decide +kernel
theorem dL_2488 : decode code 2488 = .ok (.aload_n 0, 1) := by decide +kernel
theorem dL_2489 : decode code 2489 = .ok (.iload_n 3, 1) := by decide +kernel
theorem dL_2490 : decode code 2490 = .ok (.iconst 4, 1) := by decide +kernel
theorem dL_2491 : decode code 2491 = .ok (.iadd, 1) := by decide +kernel
theorem dL_2492 : decode code 2492 = .ok (.iaload, 1) := by decide +kernel
theorem dL_2493 : decode code 2493 = .ok (.aload_n 0, 1) := by decide +kernel
theorem dL_2494 : decode code 2494 = .ok (.iload_n 3, 1) := by decide +kernel
theorem dL_2495 : decode code 2495 = .ok (.iconst 5, 1) := by decide +kernel
theorem dL_2496 : decode code 2496 = .ok (.iadd, 1) := by decide +kernel
theorem dL_2497 : decode code 2497 = .ok (.iaload, 1) := by decide +kernel
theorem dL_2498 : decode code 2498 = .ok (.invokevirtual 279, 3) := by decide +kernel
theorem dL_2501 : decode code 2501 = .ok (.aload_n 2, 1) := by decide +kernel
theorem dL_2502 : decode code 2502 = .ok (.aload_n 0, 1) := by decide +kernel
theorem dL_2503 : decode code 2503 = .ok (.iload_n 3, 1) := by decide +kernel
theorem dL_2504 : decode code 2504 = .ok (.iconst 1, 1) := by decide +kernel
theorem dL_2505 : decode code 2505 = .ok (.iadd, 1) := by decide +kernel
theorem dL_2506 : decode code 2506 = .ok (.iaload, 1) := by decide +kernel
theorem dL_2507 : decode code 2507 = .ok (.aload_n 0, 1) := by decide +kernel
theorem dL_2508 : decode code 2508 = .ok (.iload_n 3, 1) := by decide +kernel
theorem dL_2509 : decode code 2509 = .ok (.iconst 2, 1) := by decide +kernel
theorem dL_2510 : decode code 2510 = .ok (.iadd, 1) := by decide +kernel
theorem dL_2511 : decode code 2511 = .ok (.iaload, 1) := by decide +kernel
theorem dL_2512 : decode code 2512 = .ok (.aload_n 0, 1) := by decide +kernel
theorem dL_2513 : decode code 2513 = .ok (.iload_n 3, 1) := by decide +kernel
theorem dL_2514 : decode code 2514 = .ok (.iconst 3, 1) := by decide +kernel
theorem dL_2515 : decode code 2515 = .ok (.iadd, 1) := by decide +kernel
theorem dL_2516 : decode code 2516 = .ok (.iaload, 1) := by decide +kernel
theorem dL_2517 : decode code 2517 = .ok (.aload_n 0, 1) := by decide +kernel
theorem dL_2518 : decode code 2518 = .ok (.iload_n 3, 1) := by decide +kernel
theorem dL_2519 : decode code 2519 = .ok (.iconst 4, 1) := by decide +kernel
theorem dL_2520 : decode code 2520 = .ok (.iadd, 1) := by decide +kernel
theorem dL_2521 : decode code 2521 = .ok (.iaload, 1) := by decide +kernel
theorem dL_2522 : decode code 2522 = .ok (.aload_n 0, 1) := by decide +kernel
theorem dL_2523 : decode code 2523 = .ok (.iload_n 3, 1) := by decide +kernel
theorem dL_2524 : decode code 2524 = .ok (.iconst 5, 1) := by decide +kernel
theorem dL_2525 : decode code 2525 = .ok (.iadd, 1) := by decide +kernel
theorem dL_2526 : decode code 2526 = .ok (.iaload, 1) := by decide +kernel
theorem dL_2527 : decode code 2527 = .ok (.invokevirtual 282, 3) := by decide +kernel
theorem dL_2530 : decode code 2530 = .ok (.if_icmp .eq 5, 3) := by decide +kernel
theorem dL_2533 : decode code 2533 = .ok (.iconst 0, 1) := by decide +kernel
theorem dL_2534 : decode code 2534 = .ok (.ireturn, 1) := by decide +kernel
theorem dL_2535 : decode code 2535 = .ok (.iinc 3 7, 3) := by decide +kernel
theorem dL_2538 : decode code 2538 = .ok (.goto (-2520), 3) := by decide +kernel
theorem dL_2541 : decode code 2541 = .ok (.iconst 1, 1) := by decide +kernel
theorem dL_2542 : decode code 2542 = .ok (.ireturn, 1) := by decide +kernel
