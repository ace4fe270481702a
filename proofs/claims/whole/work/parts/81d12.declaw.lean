theorem dL_law_3185 : decode cL_law 3185 = .ok (.i2l, 1) := by decide +kernel
theorem dL_law_3186 : decode cL_law 3186 = .ok (.lcmp, 1) := by decide +kernel
theorem dL_law_3187 : decode cL_law 3187 = .ok (.ifCond .eq 5, 3) := by decide +kernel
theorem dL_law_3190 : decode cL_law 3190 = .ok (.iconst 0, 1) := by decide +kernel
theorem dL_law_3191 : decode cL_law 3191 = .ok (.ireturn, 1) := by decide +kernel
theorem dL_law_3192 : decode cL_law 3192 = .ok (.goto 648, 3) := by decide +kernel
theorem dL_law_3195 : decode cL_law 3195 = .ok (.aload_n 1, 1) := by decide +kernel
theorem dL_law_3196 : decode cL_law 3196 = .ok (.aload_n 0, 1) := by decide +kernel
theorem dL_law_3197 : decode cL_law 3197 = .ok (.iload 4, 2) := by decide +kernel
theorem dL_law_3199 : decode cL_law 3199 = .ok (.iconst 1, 1) := by decide +kernel
theorem dL_law_3200 : decode cL_law 3200 = .ok (.iadd, 1) := by decide +kernel
theorem dL_law_3201 : decode cL_law 3201 = .ok (.iaload, 1) := by decide +kernel
theorem dL_law_3202 : decode cL_law 3202 = .ok (.aload_n 3, 1) := by decide +kernel
theorem dL_law_3203 : decode cL_law 3203 = .ok (.invokestatic 384, 3) := by decide +kernel
theorem dL_law_3206 : decode cL_law 3206 = .ok (.istore 5, 2) := by decide +kernel
theorem dL_law_3208 : decode cL_law 3208 = .ok (.aload_n 2, 1) := by decide +kernel
theorem dL_law_3209 : decode cL_law 3209 = .ok (.aload_n 0, 1) := by decide +kernel
theorem dL_law_3210 : decode cL_law 3210 = .ok (.iload 4, 2) := by decide +kernel
theorem dL_law_3212 : decode cL_law 3212 = .ok (.iconst 1, 1) := by decide +kernel
theorem dL_law_3213 : decode cL_law 3213 = .ok (.iadd, 1) := by decide +kernel
theorem dL_law_3214 : decode cL_law 3214 = .ok (.iaload, 1) := by decide +kernel
theorem dL_law_3215 : decode cL_law 3215 = .ok (.invokevirtual 386, 3) := by decide +kernel
theorem dL_law_3218 : decode cL_law 3218 = .ok (.istore 6, 2) := by decide +kernel
theorem dL_law_3220 : decode cL_law 3220 = .ok (.aload_n 2, 1) := by decide +kernel
theorem dL_law_3221 : decode cL_law 3221 = .ok (.invokevirtual 205, 3) := by decide +kernel
theorem dL_law_3224 : decode cL_law 3224 = .ok (.iload 5, 2) := by decide +kernel
theorem dL_law_3226 : decode cL_law 3226 = .ok (.if_icmp .eq 5, 3) := by decide +kernel
theorem dL_law_3229 : decode cL_law 3229 = .ok (.iconst 0, 1) := by decide +kernel
theorem dL_law_3230 : decode cL_law 3230 = .ok (.ireturn, 1) := by decide +kernel
theorem dL_law_3231 : decode cL_law 3231 = .ok (.iload 5, 2) := by decide +kernel
theorem dL_law_3233 : decode cL_law 3233 = .ok (.ifCond .ne 15, 3) := by decide +kernel
theorem dL_law_3236 : decode cL_law 3236 = .ok (.aload_n 3, 1) := by decide +kernel
theorem dL_law_3237 : decode cL_law 3237 = .ok (.iconst 0, 1) := by decide +kernel
theorem dL_law_3238 : decode cL_law 3238 = .ok (.laload, 1) := by decide +kernel
theorem dL_law_3239 : decode cL_law 3239 = .ok (.iload 6, 2) := by decide +kernel
theorem dL_law_3241 : decode cL_law 3241 = .ok (.i2l, 1) := by decide +kernel
theorem dL_law_3242 : decode cL_law 3242 = .ok (.lcmp, 1) := by decide +kernel
theorem dL_law_3243 : decode cL_law 3243 = .ok (.ifCond .eq 5, 3) := by decide +kernel
theorem dL_law_3246 : decode cL_law 3246 = .ok (.iconst 0, 1) := by decide +kernel
theorem dL_law_3247 : decode cL_law 3247 = .ok (.ireturn, 1) := by decide +kernel
theorem dL_law_3248 : decode cL_law 3248 = .ok (.goto 592, 3) := by decide +kernel
theorem dL_law_3251 : decode cL_law 3251 = .ok (.aload_n 1, 1) := by decide +kernel
theorem dL_law_3252 : decode cL_law 3252 = .ok (.aload_n 0, 1) := by decide +kernel
theorem dL_law_3253 : decode cL_law 3253 = .ok (.iload 4, 2) := by decide +kernel
theorem dL_law_3255 : decode cL_law 3255 = .ok (.iconst 1, 1) := by decide +kernel
theorem dL_law_3256 : decode cL_law 3256 = .ok (.iadd, 1) := by decide +kernel
theorem dL_law_3257 : decode cL_law 3257 = .ok (.iaload, 1) := by decide +kernel
theorem dL_law_3258 : decode cL_law 3258 = .ok (.aload_n 3, 1) := by decide +kernel
theorem dL_law_3259 : decode cL_law 3259 = .ok (.invokestatic 387, 3) := by decide +kernel
theorem dL_law_3262 : decode cL_law 3262 = .ok (.istore 5, 2) := by decide +kernel
theorem dL_law_3264 : decode cL_law 3264 = .ok (.aload_n 2, 1) := by decide +kernel
theorem dL_law_3265 : decode cL_law 3265 = .ok (.aload_n 0, 1) := by decide +kernel
theorem dL_law_3266 : decode cL_law 3266 = .ok (.iload 4, 2) := by decide +kernel
theorem dL_law_3268 : decode cL_law 3268 = .ok (.iconst 1, 1) := by decide +kernel
theorem dL_law_3269 : decode cL_law 3269 = .ok (.iadd, 1) := by decide +kernel
theorem dL_law_3270 : decode cL_law 3270 = .ok (.iaload, 1) := by decide +kernel
theorem dL_law_3271 : decode cL_law 3271 = .ok (.invokevirtual 389, 3) := by decide +kernel
theorem dL_law_3274 : decode cL_law 3274 = .ok (.istore 6, 2) := by decide +kernel
theorem dL_law_3276 : decode cL_law 3276 = .ok (.aload_n 2, 1) := by decide +kernel
theorem dL_law_3277 : decode cL_law 3277 = .ok (.invokevirtual 205, 3) := by decide +kernel
theorem dL_law_3280 : decode cL_law 3280 = .ok (.iload 5, 2) := by decide +kernel
theorem dL_law_3282 : decode cL_law 3282 = .ok (.if_icmp .eq 5, 3) := by decide +kernel
theorem dL_law_3285 : decode cL_law 3285 = .ok (.iconst 0, 1) := by decide +kernel
theorem dL_law_3286 : decode cL_law 3286 = .ok (.ireturn, 1) := by decide +kernel
theorem dL_law_3287 : decode cL_law 3287 = .ok (.iload 5, 2) := by decide +kernel
theorem dL_law_3289 : decode cL_law 3289 = .ok (.ifCond .ne 15, 3) := by decide +kernel
theorem dL_law_3292 : decode cL_law 3292 = .ok (.aload_n 3, 1) := by decide +kernel
theorem dL_law_3293 : decode cL_law 3293 = .ok (.iconst 0, 1) := by decide +kernel
theorem dL_law_3294 : decode cL_law 3294 = .ok (.laload, 1) := by decide +kernel
theorem dL_law_3295 : decode cL_law 3295 = .ok (.iload 6, 2) := by decide +kernel
theorem dL_law_3297 : decode cL_law 3297 = .ok (.i2l, 1) := by decide +kernel
theorem dL_law_3298 : decode cL_law 3298 = .ok (.lcmp, 1) := by decide +kernel
theorem dL_law_3299 : decode cL_law 3299 = .ok (.ifCond .eq 5, 3) := by decide +kernel
theorem dL_law_3302 : decode cL_law 3302 = .ok (.iconst 0, 1) := by decide +kernel
theorem dL_law_3303 : decode cL_law 3303 = .ok (.ireturn, 1) := by decide +kernel
theorem dL_law_3304 : decode cL_law 3304 = .ok (.goto 536, 3) := by decide +kernel
theorem dL_law_3307 : decode cL_law 3307 = .ok (.aload_n 1, 1) := by decide +kernel
theorem dL_law_3308 : decode cL_law 3308 = .ok (.aload_n 0, 1) := by decide +kernel
theorem dL_law_3309 : decode cL_law 3309 = .ok (.iload 4, 2) := by decide +kernel
theorem dL_law_3311 : decode cL_law 3311 = .ok (.iconst 1, 1) := by decide +kernel
theorem dL_law_3312 : decode cL_law 3312 = .ok (.iadd, 1) := by decide +kernel
theorem dL_law_3313 : decode cL_law 3313 = .ok (.iaload, 1) := by decide +kernel
theorem dL_law_3314 : decode cL_law 3314 = .ok (.aload_n 3, 1) := by decide +kernel
theorem dL_law_3315 : decode cL_law 3315 = .ok (.invokestatic 390, 3) := by decide +kernel
theorem dL_law_3318 : decode cL_law 3318 = .ok (.istore 5, 2) := by decide +kernel
theorem dL_law_3320 : decode cL_law 3320 = .ok (.aload_n 2, 1) := by decide +kernel
theorem dL_law_3321 : decode cL_law 3321 = .ok (.aload_n 0, 1) := by decide +kernel
theorem dL_law_3322 : decode cL_law 3322 = .ok (.iload 4, 2) := by decide +kernel
theorem dL_law_3324 : decode cL_law 3324 = .ok (.iconst 1, 1) := by decide +kernel
theorem dL_law_3325 : decode cL_law 3325 = .ok (.iadd, 1) := by decide +kernel
theorem dL_law_3326 : decode cL_law 3326 = .ok (.iaload, 1) := by decide +kernel
theorem dL_law_3327 : decode cL_law 3327 = .ok (.invokevirtual 392, 3) := by decide +kernel
theorem dL_law_3330 : decode cL_law 3330 = .ok (.istore 6, 2) := by decide +kernel
theorem dL_law_3332 : decode cL_law 3332 = .ok (.aload_n 2, 1) := by decide +kernel
theorem dL_law_3333 : decode cL_law 3333 = .ok (.invokevirtual 205, 3) := by decide +kernel
theorem dL_law_3336 : decode cL_law 3336 = .ok (.iload 5, 2) := by decide +kernel
theorem dL_law_3338 : decode cL_law 3338 = .ok (.if_icmp .eq 5, 3) := by decide +kernel
theorem dL_law_3341 : decode cL_law 3341 = .ok (.iconst 0, 1) := by decide +kernel
theorem dL_law_3342 : decode cL_law 3342 = .ok (.ireturn, 1) := by decide +kernel
theorem dL_law_3343 : decode cL_law 3343 = .ok (.iload 5, 2) := by decide +kernel
theorem dL_law_3345 : decode cL_law 3345 = .ok (.ifCond .ne 15, 3) := by decide +kernel
theorem dL_law_3348 : decode cL_law 3348 = .ok (.aload_n 3, 1) := by decide +kernel
theorem dL_law_3349 : decode cL_law 3349 = .ok (.iconst 0, 1) := by decide +kernel
theorem dL_law_3350 : decode cL_law 3350 = .ok (.laload, 1) := by decide +kernel
theorem dL_law_3351 : decode cL_law 3351 = .ok (.iload 6, 2) := by decide +kernel
theorem dL_law_3353 : decode cL_law 3353 = .ok (.i2l, 1) := by decide +kernel
theorem dL_law_3354 : decode cL_law 3354 = .ok (.lcmp, 1) := by decide +kernel
theorem dL_law_3355 : decode cL_law 3355 = .ok (.ifCond .eq 5, 3) := by decide +kernel
theorem dL_law_3358 : decode cL_law 3358 = .ok (.iconst 0, 1) := by decide +kernel
theorem dL_law_3359 : decode cL_law 3359 = .ok (.ireturn, 1) := by decide +kernel
theorem dL_law_3360 : decode cL_law 3360 = .ok (.goto 480, 3) := by decide +kernel
theorem dL_law_3363 : decode cL_law 3363 = .ok (.aload_n 1, 1) := by decide +kernel
theorem dL_law_3364 : decode cL_law 3364 = .ok (.aload_n 0, 1) := by decide +kernel
theorem dL_law_3365 : decode cL_law 3365 = .ok (.iload 4, 2) := by decide +kernel
theorem dL_law_3367 : decode cL_law 3367 = .ok (.iconst 1, 1) := by decide +kernel
theorem dL_law_3368 : decode cL_law 3368 = .ok (.iadd, 1) := by decide +kernel
theorem dL_law_3369 : decode cL_law 3369 = .ok (.iaload, 1) := by decide +kernel
theorem dL_law_3370 : decode cL_law 3370 = .ok (.aload_n 3, 1) := by decide +kernel
theorem dL_law_3371 : decode cL_law 3371 = .ok (.invokestatic 393, 3) := by decide +kernel
theorem dL_law_3374 : decode cL_law 3374 = .ok (.istore 5, 2) := by decide +kernel
theorem dL_law_3376 : decode cL_law 3376 = .ok (.aload_n 2, 1) := by decide +kernel
theorem dL_law_3377 : decode cL_law 3377 = .ok (.aload_n 0, 1) := by decide +kernel
theorem dL_law_3378 : decode cL_law 3378 = .ok (.iload 4, 2) := by decide +kernel
theorem dL_law_3380 : decode cL_law 3380 = .ok (.iconst 1, 1) := by decide +kernel
theorem dL_law_3381 : decode cL_law 3381 = .ok (.iadd, 1) := by decide +kernel
theorem dL_law_3382 : decode cL_law 3382 = .ok (.iaload, 1) := by decide +kernel
theorem dL_law_3383 : decode cL_law 3383 = .ok (.invokevirtual 395, 3) := by decide +kernel
theorem dL_law_3386 : decode cL_law 3386 = .ok (.istore 6, 2) := by decide +kernel
theorem dL_law_3388 : decode cL_law 3388 = .ok (.aload_n 2, 1) := by decide +kernel
theorem dL_law_3389 : decode cL_law 3389 = .ok (.invokevirtual 205, 3) := by decide +kernel
theorem dL_law_3392 : decode cL_law 3392 = .ok (.iload 5, 2) := by decide +kernel
theorem dL_law_3394 : decode cL_law 3394 = .ok (.if_icmp .eq 5, 3) := by decide +kernel
theorem dL_law_3397 : decode cL_law 3397 = .ok (.iconst 0, 1) := by decide +kernel
theorem dL_law_3398 : decode cL_law 3398 = .ok (.ireturn, 1) := by decide +kernel
theorem dL_law_3399 : decode cL_law 3399 = .ok (.iload 5, 2) := by decide +kernel
theorem dL_law_3401 : decode cL_law 3401 = .ok (.ifCond .ne 22, 3) := by decide +kernel
theorem dL_law_3404 : decode cL_law 3404 = .ok (.aload_n 3, 1) := by decide +kernel
theorem dL_law_3405 : decode cL_law 3405 = .ok (.iconst 0, 1) := by decide +kernel
theorem dL_law_3406 : decode cL_law 3406 = .ok (.laload, 1) := by decide +kernel
theorem dL_law_3407 : decode cL_law 3407 = .ok (.iload 6, 2) := by decide +kernel
theorem dL_law_3409 : decode cL_law 3409 = .ok (.ifCond .eq 7, 3) := by decide +kernel
theorem dL_law_3412 : decode cL_law 3412 = .ok (.lconst 1, 1) := by decide +kernel
theorem dL_law_3413 : decode cL_law 3413 = .ok (.goto 4, 3) := by decide +kernel
theorem dL_law_3416 : decode cL_law 3416 = .ok (.lconst 0, 1) := by decide +kernel
theorem dL_law_3417 : decode cL_law 3417 = .ok (.lcmp, 1) := by decide +kernel
theorem dL_law_3418 : decode cL_law 3418 = .ok (.ifCond .eq 5, 3) := by decide +kernel
theorem dL_law_3421 : decode cL_law 3421 = .ok (.iconst 0, 1) := by decide +kernel
theorem dL_law_3422 : decode cL_law 3422 = .ok (.ireturn, 1) := by decide +kernel
theorem dL_law_3423 : decode cL_law 3423 = .ok (.goto 417, 3) := by decide +kernel
theorem dL_law_3426 : decode cL_law 3426 = .ok (.aload_n 1, 1) := by decide +kernel
