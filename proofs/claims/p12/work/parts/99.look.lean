theorem zz_look : True := by
  have h1 := @L_sound
  have h2 := @c_isTold
  have h3 := @c_isDivided
  have h4 := @tuV_eq
  have h5 := @c_xInit
  have h6 := @c_xDigest
  have h7 := @c_xTurn
  trivial
