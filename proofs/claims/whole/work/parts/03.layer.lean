theorem x_try : True := trivial
