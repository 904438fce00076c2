import java.math.BigInteger;

/**
 * Each bound that promises 23 to 27 name, and the terms behind them: DRUNK, A YEAR, KEPT, how many; then those that
 * are told of all calls. The remark ahead of each test is the sentence that it holds.
 */
public final class BoundsOfYearsTest {
    private static final int BAD = StileAccounts.BAD;
    private static final int NO = StileAccounts.NO;
    private static final int FULL = StileAccounts.FULL;
    private static final int NONE = StileAccounts.NONE;
    private static final String FORK = "f3;s2,0,1;s2,0,2;w0,0,1;l10;";
    private static final String RING = "f3;s2,0,1;s2,1,2;s2,2,0;w0,0,1;";
    /** Years of which the first DRAW is 1, 65, 3, 31, 24, 65518, 7, 16, 65512, 63, 18, 65506, 65519, 5, 32, 38, 42. */
    private static final int[] YEARS =
        {0, 1053, 1845, 1937, 3517, 3653, 4003, 4501, 4649, 4696, 6098, 6297, 7192, 7266, 7074, 9778, 9911};
    private static final int[] FIRST_DRAWS =
        {1, 65, 3, 31, 24, 65518, 7, 16, 65512, 63, 18, 65506, 65519, 5, 32, 38, 42};

    public static void main(String[] args) {
        beingDrunk();
        living();
        keeping();
        gettingBack();
        counting();
        allCalls();
        Due.end();
    }

    private static void drunkIs(StileAccounts x, int f, int n, int ofTen, int above, int below) {
        String call = "drunk(0, " + f + ", " + n + ", " + ofTen + ")";
        Due.is(call + " above", x.drunk(0, f, n, ofTen, 0), above);
        Due.is(call + " below", x.drunk(0, f, n, ofTen, 1), below);
    }

    // ---- promise 23

    private static void beingDrunk() {
        drunkSuchAsThereAre();
        whatIsTold();
        from0To8Treads();
        from0To10OfTen();
        heStays();
        theLowestAndTheHighest();
        wearingNothing();
        inLowestTerms();
        Bounds.onlyTells("drunk", Fields::lived, x -> x.drunk(0, 1, 8, 3, 0));
    }

    // "BAD: a number is none that is told (FIELDS, .. WALKERS: such as there are)"
    private static void drunkSuchAsThereAre() {
        Bounds.told("drunk of walker", Fields::lived, 0, 1, (x, w) -> x.drunk(w, 0, 1, 5, 0));
        Bounds.told("drunk at field", Fields::lived, 0, 3, (x, f) -> x.drunk(0, f, 1, 5, 1));
        Bounds.told("drunk of four", Fields::most, 0, 3, (x, w) -> x.drunk(w, 7, 8, 10, 0));
        Bounds.told("drunk at eight", Fields::most, 0, 7, (x, f) -> x.drunk(3, f, 8, 0, 1));
        Bounds.told("drunk of one", Fields::least, 0, 0, (x, w) -> x.drunk(w, 0, 8, 5, 0));
        Bounds.told("drunk at one", Fields::least, 0, 0, (x, f) -> x.drunk(0, f, 8, 5, 0));
    }

    // "n (0 to 8)", "x (0 to 10)"; promise 23, "above (part = 0), below (1). BAD"
    private static void whatIsTold() {
        Bounds.told("treads of drunk", Fields::lived, 0, 8, (x, n) -> x.drunk(0, 0, n, 5, 0));
        Bounds.told("of ten of drunk", Fields::lived, 0, 10, (x, ten) -> x.drunk(0, 0, 8, ten, 0));
        Bounds.told("part of drunk", Fields::lived, 0, 1, (x, part) -> x.drunk(0, 0, 8, 5, part));
        Bounds.refused("all are none", Fields::lived, BAD, x -> x.drunk(2, 4, 9, 11, 2));
    }

    // "in each of n (0 to 8) TREADS": by none he is where he is; by 8 of ten each
    private static void from0To8Treads() {
        StileAccounts x = Fields.laid(RING);
        for (int ten = 0; ten <= 10; ten++) {
            drunkIs(x, 0, 0, ten, 1, 1);
            drunkIs(x, 1, 0, ten, 0, 1);
            drunkIs(x, 2, 0, ten, 0, 1);
        }
        drunkIs(x, 0, 1, 3, 0, 1);
        drunkIs(x, 1, 1, 3, 3, 10);
        drunkIs(x, 2, 1, 3, 7, 10);
        drunkIs(x, 0, 8, 3, 19060931, 50000000);
        drunkIs(x, 1, 8, 3, 23075409, 100000000);
        drunkIs(x, 2, 8, 3, 38802729, 100000000);
    }

    // "by x (0 to 10) of ten": never the lowest, always the lowest, and each between
    private static void from0To10OfTen() {
        StileAccounts x = Fields.laid(FORK);
        int[][] lower = {{0, 1}, {1, 10}, {1, 5}, {3, 10}, {2, 5}, {1, 2}, {3, 5}, {7, 10}, {4, 5}, {9, 10}, {1, 1}};
        for (int ten = 0; ten <= 10; ten++) {
            drunkIs(x, 1, 1, ten, lower[ten][0], lower[ten][1]);
            drunkIs(x, 2, 1, ten, lower[10 - ten][0], lower[10 - ten][1]);
            drunkIs(x, 0, 1, ten, 0, 1);
            drunkIs(x, 0, 8, ten, 1, 1);
        }
    }

    // "(if there is none he stays)": no STILE at his FIELD, or all of them BROKEN, one less than L or L
    private static void heStays() {
        StileAccounts least = Fields.least();
        drunkIs(least, 0, 0, 5, 1, 1);
        drunkIs(least, 0, 1, 5, 1, 1);
        drunkIs(least, 0, 8, 0, 1, 1);
        StileAccounts apart = Fields.laid("f3;s2,1,2;w0,0,1;");
        drunkIs(apart, 0, 8, 3, 1, 1);
        drunkIs(apart, 1, 8, 3, 0, 1);
        StileAccounts x = Fields.laid("f2;s0,0,1;w0,0,9;w0,0,1;l10;");
        x.tread(0, 0);
        drunkIs(x, 1, 1, 3, 0, 1);
        drunkIs(x, 0, 1, 3, 1, 1);
        x.tread(1, 0);
        drunkIs(x, 1, 1, 3, 1, 1);
        drunkIs(x, 1, 8, 3, 1, 1);
        drunkIs(x, 0, 1, 3, 0, 1);
    }

    // "the lowest STILE at his FIELD that is not BROKEN by x .. of ten, else over the highest": may be the same one
    private static void theLowestAndTheHighest() {
        StileAccounts x = Fields.laid("f5;s2,0,1;s2,0,2;s2,3,0;s2,4,0;w0,0,1;l10;");
        drunkIs(x, 1, 1, 3, 3, 10);
        drunkIs(x, 4, 1, 3, 7, 10);
        drunkIs(x, 2, 1, 3, 0, 1);
        Fields.sands(x, 0, 2);
        drunkIs(x, 2, 1, 3, 3, 10);
        drunkIs(x, 1, 1, 3, 0, 1);
        Fields.sands(x, 3, 2);
        drunkIs(x, 3, 1, 3, 7, 10);
        drunkIs(x, 4, 1, 3, 0, 1);
        Fields.sands(x, 1, 2);
        drunkIs(x, 3, 1, 3, 1, 1);
        drunkIs(x, 3, 1, 0, 1, 1);
        drunkIs(x, 3, 1, 10, 1, 1);
        StileAccounts nine = Fields.most();
        Due.is("over the ninth", nine.drunk(0, 2, 1, 0, 0), 1);
        Due.is("over the first", nine.drunk(0, 1, 1, 10, 0), 1);
    }

    // "wearing nothing": what one TREAD would break is gone over 8 times
    private static void wearingNothing() {
        StileAccounts x = Fields.laid("f2;s1,0,1;w2,0,9;l10;");
        for (int n = 0; n <= 8; n++) {
            drunkIs(x, n % 2, n, 5, 1, 1);
        }
        Due.is("worn", x.count(5), 0);
        Due.is("treads", x.count(3), 0);
        Due.is("where he is", x.walker(0, 1), 0);
    }

    // "the chance .. in lowest terms": 0 of 1, 1 of 1, by 2 alone, by 5 alone, by both, by neither
    private static void inLowestTerms() {
        StileAccounts x = Fields.laid(RING);
        drunkIs(x, 0, 8, 10, 1, 1);
        drunkIs(x, 1, 8, 10, 0, 1);
        drunkIs(x, 2, 8, 0, 0, 1);
        drunkIs(x, 0, 8, 5, 43, 128);
        drunkIs(x, 1, 8, 5, 85, 256);
        drunkIs(x, 0, 8, 2, 181037, 390625);
        drunkIs(x, 1, 8, 2, 65104, 390625);
        drunkIs(x, 1, 8, 1, 9090909, 100000000);
        drunkIs(x, 0, 8, 9, 31965611, 50000000);
        StileAccounts row = Fields.laid("f8;s2,1,0;s2,1,2;s2,2,3;s2,3,4;s2,4,5;s2,5,6;s2,6,7;w0,1,1;");
        drunkIs(row, 7, 6, 9, 1, 1000000);
        drunkIs(row, 7, 8, 9, 29, 20000000);
        drunkIs(row, 0, 8, 9, 0, 1);
    }

    // ---- promise 24

    private static int draw(int z, int k) {
        BigInteger x = BigInteger.valueOf(7919).multiply(BigInteger.valueOf(z))
            .add(BigInteger.valueOf(6151).multiply(BigInteger.valueOf(k))).add(BigInteger.ONE);
        return x.multiply(x).mod(BigInteger.valueOf(65521)).intValue();
    }

    private static void yearIs(StileAccounts x, int z, int n, int credit, int broken) {
        Due.is("credit of year(" + z + ", " + n + ")", x.year(z, n, 0), credit);
        Due.is("broken of year(" + z + ", " + n + ")", x.year(z, n, 1), broken);
    }

    private static void living() {
        yearsSuchAsAreTold();
        drawsOfTheFirstTread();
        drawModuloWalkers();
        drawBy4ModuloStiles();
        onlyOfThoseNotBroken();
        theLowestIsReplaced();
        noStileThere();
        from1To60Treads();
        drawsAtTheirBounds();
        creditFromNowOn();
        everyYear();
        Bounds.onlyTells("year", Fields::lived, x -> x.year(9999, 60, 0));
        Bounds.onlyTells("year of what is laid", () -> Fields.laid(Fields.LIVED), x -> x.year(0, 60, 1));
    }

    // "z (0 to 9999)", "n (1 to 60)"; promise 24, "CREDIT (what = 0), STILES (1). BAD"
    private static void yearsSuchAsAreTold() {
        Bounds.told("z of year", Fields::lived, 0, 9999, (x, z) -> x.year(z, 60, 0));
        Bounds.told("treads of year", Fields::lived, 1, 60, (x, n) -> x.year(9999, n, 1));
        Bounds.told("what of year", Fields::lived, 0, 1, (x, what) -> x.year(0, 1, what));
        Bounds.refused("all are none", Fields::lived, BAD, x -> x.year(10000, 61, 2));
    }

    // "in the k-th (0 first) .. DRAW being (x times x) modulo 65521, x 7919 z, 6151 k and 1 together"
    private static void drawsOfTheFirstTread() {
        for (int i = 0; i < YEARS.length; i++) {
            Due.is("first draw of " + YEARS[i], draw(YEARS[i], 0), FIRST_DRAWS[i]);
        }
    }

    // "WALKER DRAW modulo as many as there are TREADS": of one to four, told by who is TALL, all others CARRIED
    private static void drawModuloWalkers() {
        for (int many = 1; many <= 4; many++) {
            for (int tall = 0; tall < many; tall++) {
                StringBuilder text = new StringBuilder("f2;s2,0,1;");
                for (int w = 0; w < many; w++) {
                    text.append(w == tall ? "w1,0,1;" : "w3,0,1;");
                }
                StileAccounts x = Fields.laid(text.toString());
                for (int i = 0; i < YEARS.length; i++) {
                    yearIs(x, YEARS[i], 1, FIRST_DRAWS[i] % many == tall ? 2 : 0, 0);
                }
            }
        }
    }

    // "that of number (DRAW by 4, cut) modulo as many as these are (0 the lowest)": of one to nine, told by which is
    // no GATE
    private static void drawBy4ModuloStiles() {
        for (int many = 1; many <= 9; many++) {
            for (int stone = 0; stone < many; stone++) {
                StileAccounts x = Fields.laid(stonesAndGates(many, stone));
                for (int i = 0; i < YEARS.length; i++) {
                    yearIs(x, YEARS[i], 1, FIRST_DRAWS[i] / 4 % many == stone ? 1 : 0, 0);
                }
            }
        }
    }

    private static String stonesAndGates(int many, int stone) {
        StringBuilder text = new StringBuilder("f2;");
        for (int s = 0; s < many; s++) {
            text.append(s == stone ? "s2,0,1;" : "s3,0,1;");
        }
        return text.append("w0,0,1;l10;").toString();
    }

    // "of the STILES at his FIELD that are not BROKEN": worn by L each second, then all but the highest
    private static void onlyOfThoseNotBroken() {
        int[] brokenBits = {0x055, 0x0AA, 0x0FF, 0x1FE, 0x001, 0x100};
        for (int bits : brokenBits) {
            for (int stone = 0; stone < 9; stone++) {
                StileAccounts x = Fields.laid(stonesAndGates(9, stone));
                for (int s = 0; s < 9; s++) {
                    Fields.sands(x, s, (bits >> s & 1) == 1 ? 2 : 1);
                }
                for (int i = 0; i < YEARS.length; i++) {
                    int number = FIRST_DRAWS[i] / 4 % (9 - Integer.bitCount(bits));
                    yearIs(x, YEARS[i], 1, unbroken(bits, number) == stone ? 1 : 0, Integer.bitCount(bits));
                }
            }
        }
    }

    private static int unbroken(int brokenBits, int number) {
        int left = number;
        for (int s = 0; s < 9; s++) {
            if ((brokenBits >> s & 1) == 0 && left-- == 0) {
                return s;
            }
        }
        return NONE;
    }

    // "if there is none, the lowest STILE at his FIELD is REPLACED": not one at another FIELD, not a higher one
    private static void theLowestIsReplaced() {
        StileAccounts x = Fields.laid("f3;s3,0,1;s2,1,2;s3,2,1;w0,2,1;l10;");
        for (int s = 0; s < 3; s++) {
            Fields.sands(x, s, 3);
        }
        yearIs(x, 0, 1, 0, 2);
        yearIs(x, 0, 2, 1, 2);
        yearIs(x, 0, 60, 59, 2);
        Due.is("nothing is replaced by it", x.count(4), 3);
        StileAccounts gate = Fields.laid("f2;s3,0,1;s2,0,1;w0,1,1;l10;");
        Fields.sands(gate, 0, 2);
        Fields.sands(gate, 1, 200);
        yearIs(gate, 77, 1, 0, 1);
        yearIs(gate, 77, 60, 0, 1);
    }

    // "if there is any": else nothing is done, though others are BROKEN
    private static void noStileThere() {
        yearIs(Fields.least(), 0, 1, 0, 0);
        yearIs(Fields.least(), 9999, 60, 0, 0);
        StileAccounts x = Fields.laid("f3;s0,0,1;w1,2,9;l10;");
        Fields.sands(x, 0, 2);
        yearIs(x, 0, 1, 0, 1);
        yearIs(x, 5000, 60, 0, 1);
        StileAccounts nine = Fields.laid("f3;" + "s0,0,1;".repeat(9) + "w0,2,9;l10;");
        Fields.sands(nine, 8, 2);
        yearIs(nine, 0, 1, 0, 1);
        yearIs(nine, 9999, 60, 0, 1);
        nine.wipe();
        Fields.write(nine, "f3;s0,2,1;w0,0,9;");
        nine.lay();
        yearIs(nine, 0, 60, 0, 0);
    }

    // "of n (1 to 60) TREADS": two break it, the third replaces it, whatever is drawn of one WALKER and one STILE
    private static void from1To60Treads() {
        StileAccounts x = Fields.laid("f2;s0,0,1;w0,0,9;l10;");
        int[] years = {0, 1, 4999, 9999};
        for (int z : years) {
            for (int n = 1; n <= 60; n++) {
                yearIs(x, z, n, n - n / 3, n % 3 == 2 ? 1 : 0);
            }
        }
        StileAccounts just = Fields.laid("f2;s0,0,1;w0,0,5;l10;");
        yearIs(just, 7, 1, 1, 0);
        yearIs(just, 7, 2, 2, 1);
        yearIs(just, 7, 3, 2, 0);
        yearIs(just, 7, 60, 40, 0);
    }

    // "modulo 65521": the least DRAW is 0, the most 65520, whatever x times x is, also in the last TREAD of 60
    private static void drawsAtTheirBounds() {
        Due.is("the least draw", draw(8058, 1), 0);
        Due.is("the least draw of the last tread", draw(3876, 59), 0);
        Due.is("the most", draw(862, 2), 65520);
        Due.is("the most of the tenth tread", draw(1049, 9), 65520);
        for (int rich = 0; rich < 4; rich++) {
            StringBuilder text = new StringBuilder("f2;");
            for (int s = 0; s < 8; s++) {
                text.append(s < 4 ? "s2,0,1;" : "s3,0,1;");
            }
            for (int w = 0; w < 4; w++) {
                text.append(w == rich ? "w1,0,1;" : "w3,0,1;");
            }
            StileAccounts x = Fields.laid(text.toString());
            // 0: walker 0 by stile 0, a stone; 65520: walker 0 by number 16380, stile 4 of 8, a gate
            int ofWalker0 = rich == 0 ? 2 : 0;
            Due.is("by the least", x.year(8058, 2, 0) - x.year(8058, 1, 0), ofWalker0);
            Due.is("by the least at last", x.year(3876, 60, 0) - x.year(3876, 59, 0), ofWalker0);
            Due.is("by the most", x.year(862, 3, 0) - x.year(862, 2, 0), 0);
            Due.is("by the most in the tenth", x.year(1049, 10, 0) - x.year(1049, 9, 0), 0);
        }
        StileAccounts seven = Fields.laid(stonesAndGates(7, 0));
        // 16380 modulo 7 is 0
        Due.is("by the most, of seven", seven.year(862, 3, 0) - seven.year(862, 2, 0), 1);
    }

    // "from now on .. CREDIT of all then": with what they have now, from where they are now
    private static void creditFromNowOn() {
        StileAccounts x = Fields.laid("f3;s2,0,1;s3,1,2;w1,0,1;");
        yearIs(x, 0, 1, 2, 0);
        Fields.treads(x, 0, 0);
        yearIs(x, 0, 1, 4, 0);
        Fields.treads(x, 0, 1);
        yearIs(x, 0, 1, 2, 0);
        Due.is("credit now", x.count(6), 2);
        StileAccounts worn = Fields.laid("f2;s0,0,1;w0,0,1;l10;");
        worn.sand(0);
        yearIs(worn, 3, 4, 4, 0);
        yearIs(worn, 3, 5, 5, 1);
        x.replace(0);
        Due.is("a year by what is replaced", x.year(0, 1, 1), 0);
    }

    // "z (0 to 9999)": each year, as the model tells it, no x times x being too large
    private static void everyYear() {
        Model model = new Model();
        StileAccounts x = new StileAccounts();
        for (int z = 0; z <= 9999; z++) {
            int n = 1 + (z * 7 + z / 60) % 60;
            if (z % 200 == 0) {
                x = new StileAccounts();
            }
            Due.is("credit of year(" + z + ", " + n + ")", x.year(z, n, 0), model.year(z, n, 0));
            Due.is("broken of year(" + z + ", " + n + ")", x.year(z, n, 1), model.year(z, n, 1));
        }
    }

    // ---- promise 25

    private static void keeping() {
        twoAtMost();
        keptIsWhatStoodThen();
        keptAgain();
    }

    // "KEPT .. 2 at most"; promise 25, "how many. FULL"
    private static void twoAtMost() {
        StileAccounts x = Fields.most();
        Due.is("the first", x.keep(), 1);
        Due.is("kept", x.count(9), 1);
        Due.is("the second", x.keep(), 2);
        Due.is("kept", x.count(9), 2);
        Due.is("the third", x.keep(), FULL);
        Due.is("kept still", x.count(9), 2);
        Bounds.refused("the third", Fields::full, FULL, StileAccounts::keep);
        Bounds.refused("the third of what is kept at once", BoundsOfYearsTest::keptTwice, FULL, StileAccounts::keep);
    }

    private static StileAccounts keptTwice() {
        StileAccounts x = Fields.lived();
        x.keep();
        return x;
    }

    // "KEPT is all as it stands": what is done behind it changes nothing of it, nor does keep change anything now
    private static void keptIsWhatStoodThen() {
        StileAccounts x = Fields.laid(Fields.LIVED);
        Fields.treads(x, 0, 0);
        String due = Fields.glance(x);
        int undone = x.count(8);
        x.keep();
        Due.holds("keep changes nothing now", Fields.glance(x).equals(due));
        Due.is("what can be undone stays", x.count(8), undone);
        Fields.treads(x, 0, 1);
        x.sand(0);
        x.replace(1);
        x.undo();
        x.undo();
        x.undo();
        x.undo();
        Fields.treads(x, 1, 0);
        Due.is("back", x.back(), 0);
        Due.holds("as it stood then", Fields.glance(x).equals(due));
    }

    // "(it is KEPT no more then)": behind back there is room for one more
    private static void keptAgain() {
        StileAccounts x = Fields.most();
        for (int i = 0; i < 5; i++) {
            Due.is("keep", x.keep(), 1);
            Due.is("keep", x.keep(), 2);
            Due.is("keep", x.keep(), FULL);
            Due.is("back", x.back(), 1);
            Due.is("keep", x.keep(), 2);
            Due.is("back", x.back(), 1);
            Due.is("back", x.back(), 0);
        }
    }

    // ---- promise 26

    private static void gettingBack() {
        nothingKept();
        asKeptLast();
        seenAndTextStay();
        nothingIsUndoneThen();
    }

    // Promise 26, "NO": not as things stand, if nothing is KEPT
    private static void nothingKept() {
        Bounds.refused("back at first", StileAccounts::new, NO, StileAccounts::back);
        Bounds.refused("back of what is laid", Fields::most, NO, StileAccounts::back);
        Bounds.refused("back, with much to undo", BoundsOfYearsTest::sandedTen, NO, StileAccounts::back);
        StileAccounts x = Fields.lived();
        Due.is("back", x.back(), 0);
        Due.is("back again", x.back(), NO);
    }

    private static StileAccounts sandedTen() {
        StileAccounts x = Fields.laid(Fields.LIVED);
        Fields.sands(x, 0, 10);
        return x;
    }

    // "As KEPT last .. how many are left": the second, then the first; all that stood
    private static void asKeptLast() {
        StileAccounts x = Fields.laid("f2;" + "s0,0,1;".repeat(9) + "w0,0,1;w1,1,2;w2,0,3;w3,1,4;l10;");
        Fields.treads(x, 3, 8);
        Fields.treads(x, 0, 0);
        String first = Fields.glance(x);
        x.keep();
        Fields.treads(x, 3, 8, 8);
        Fields.treads(x, 1, 0);
        Fields.treads(x, 2, 4);
        String second = Fields.glance(x);
        x.keep();
        x.replace(8);
        Fields.treads(x, 2, 5, 6);
        Fields.treads(x, 0, 1);
        x.sand(7);
        Due.is("broken", x.count(4), 0);
        Due.is("back", x.back(), 1);
        Due.holds("as kept last", Fields.glance(x).equals(second));
        Due.is("broken then", x.stile(8, 4), 1);
        Due.is("left", x.count(9), 1);
        Due.is("back again", x.back(), 0);
        Due.holds("as kept first", Fields.glance(x).equals(first));
        Due.is("broken no more", x.count(4), 0);
        Due.is("none left", x.count(9), 0);
    }

    // "all as it stands, but what is SEEN and THE TEXT (these stay by back()": none then, six and 200 letters now,
    // and the other way about
    private static void seenAndTextStay() {
        StileAccounts x = Fields.laid("f2;s0,0,1;w0,0,2;");
        int letters = x.wipe();
        x.keep();
        for (int i = 0; i < 6; i++) {
            x.see(0, 3);
        }
        Fields.write(x, "l".repeat(200));
        Due.is("letters that were", letters, 17);
        Due.is("back", x.back(), 0);
        Due.is("seen", x.count(7), 6);
        Due.is("whose", x.whose(0), 0);
        Due.is("letters", x.count(10), 200);
        Due.is("the 7th", x.see(0, 3), FULL);
        Due.is("the 201st", x.write('l'), FULL);
        x.keep();
        x.forget();
        x.wipe();
        Due.is("back", x.back(), 0);
        Due.is("seen no more", x.count(7), 0);
        Due.is("whose now", x.whose(0), 1);
        Due.is("letters no more", x.count(10), 0);
        Due.is("fault no more", x.fault(), NONE);
    }

    // "behind which nothing can be UNDONE": neither what could be ahead of keep nor behind it; then anew
    private static void nothingIsUndoneThen() {
        StileAccounts x = Fields.full();
        Due.is("can be undone", x.count(8), 8);
        Due.is("back", x.back(), 1);
        Due.is("can be undone then", x.count(8), 0);
        Due.is("undo", x.undo(), NO);
        Due.is("worn as kept", x.stile(0, 3), 6);
        x.sand(0);
        Due.is("can be undone anew", x.count(8), 1);
        Due.is("undo", x.undo(), 0);
        Due.is("undo no more", x.undo(), NO);
        Due.is("worn as kept", x.stile(0, 3), 6);
        x.sand(0);
        Due.is("back", x.back(), 0);
        Due.is("undo", x.undo(), NO);
        Due.is("worn as kept first", x.stile(0, 3), 1);
    }

    // ---- promise 27

    private static void counting() {
        whatIsCounted();
        theLeast();
        theMost();
        wornByAllAtMost();
        treadsUndoneAndKept();
        Bounds.onlyTells("count", Fields::lived, x -> x.count(5));
    }

    // Promise 27, "0 FIELDS .. 10 letters of THE TEXT. BAD"
    private static void whatIsCounted() {
        Bounds.told("count", Fields::lived, 0, 10, StileAccounts::count);
        Bounds.told("count of the full", Fields::full, 0, 10, StileAccounts::count);
        Bounds.told("count of the least", Fields::least, 0, 10, StileAccounts::count);
    }

    private static void countsAre(StileAccounts x, int... due) {
        for (int what = 0; what < due.length; what++) {
            Due.is("count(" + what + ")", x.count(what), due[what]);
        }
    }

    // Promise 27, "How many": the fewest of each
    private static void theLeast() {
        StileAccounts x = Fields.least();
        x.wipe();
        countsAre(x, 1, 0, 1, 0, 0, 0, 0, 0, 0, 0, 0);
    }

    // Promise 27, "How many": the most FIELDS, STILES, WALKERS, BROKEN, SEEN, that can be UNDONE, KEPT, letters
    private static void theMost() {
        StileAccounts x = Fields.laid(Fields.MOST + "l10;");
        for (int s = 0; s < 9; s++) {
            Fields.sands(x, s, 2);
            Due.is("broken", x.count(4), s + 1);
            Due.is("worn", x.count(5), 10 * s + 10);
        }
        for (int i = 0; i < 6; i++) {
            x.see(i, i);
        }
        x.keep();
        x.keep();
        Fields.write(x, "x".repeat(200 - x.count(10)));
        countsAre(x, 8, 9, 4, 0, 9, 90, 0, 6, 8, 2, 200);
    }

    // Promise 27, "5 what all are worn by": each by 999 at most, together by more
    private static void wornByAllAtMost() {
        StileAccounts x = Fields.laid("f2;s0,0,1;s0,0,1;w0,0,1;l10;");
        Fields.sands(x, 0, 201);
        Fields.sands(x, 1, 201);
        Due.is("worn", x.count(5), 1998);
        Due.is("broken", x.count(4), 2);
        x.replace(0);
        Due.is("worn", x.count(5), 999);
        Due.is("broken", x.count(4), 1);
    }

    // Promise 27, "3 TREADS of all so far (as it is UNDONE, KEPT: those of then)"; 6 CREDIT of all as well
    private static void treadsUndoneAndKept() {
        StileAccounts x = Fields.laid("f2;s2,0,1;s3,0,1;w0,0,1;w1,0,1;w3,0,1;");
        Fields.treads(x, 0, 0);
        Fields.treads(x, 1, 0, 1);
        Fields.treads(x, 2, 0);
        countsAre(x, 2, 2, 3, 4, 0, 0, 3, 0, 4, 0);
        x.keep();
        for (int i = 0; i < 9; i++) {
            Fields.treads(x, 1, 0);
        }
        countsAre(x, 2, 2, 3, 13, 0, 0, 21, 0, 8, 1);
        for (int i = 1; i <= 8; i++) {
            x.undo();
            Due.is("treads undone", x.count(3), 13 - i);
        }
        x.undo();
        countsAre(x, 2, 2, 3, 5, 0, 0, 5, 0, 0, 1);
        x.back();
        countsAre(x, 2, 2, 3, 4, 0, 0, 3, 0, 0, 0);
        x.replace(0);
        x.year(0, 60, 0);
        x.drunk(0, 0, 8, 5, 0);
        Due.is("treads of replacing, of a year, of a drunkard", x.count(3), 4);
    }

    // ---- all calls

    private static void allCalls() {
        suchAsThereAreNow();
        answersOf512Calls();
        objectsByThemselves();
    }

    // "(FIELDS, STILES, WALKERS: such as there are)": as many as are LAID now, more or fewer than before
    private static void suchAsThereAreNow() {
        StileAccounts x = Fields.laid(Fields.MOST);
        x.wipe();
        Fields.write(x, "f2;s0,0,1;w0,0,1;");
        Due.is("stile 8 until it is laid", x.stile(8, 0), 0);
        x.lay();
        int[] bad = {x.stile(1, 0), x.walker(1, 0), x.account(0, 1), x.account(1, 0), x.tread(0, 1), x.tread(1, 0), x.replace(1),
            x.sand(1), x.way(1, 0, 0), x.way(0, 2, 0), x.even(1), x.lasts(1, 0), x.lasts(0, 1), x.see(1, 0), x.whose(1),
            x.often(1, 0, 0), x.often(0, 1, 0), x.drunk(1, 0, 0, 0, 0), x.drunk(0, 2, 0, 0, 0)};
        for (int i = 0; i < bad.length; i++) {
            Due.is("call " + i + " of what is no more", bad[i], BAD);
        }
        x.wipe();
        Fields.write(x, "f3;s0,0,1;s0,0,2;w0,0,1;w0,2,1;");
        x.lay();
        int[] told = {x.stile(1, 2), x.walker(1, 1), x.account(1, 1), x.way(1, 0, 0), x.way(0, 2, 0), x.even(1), x.lasts(1, 1),
            x.whose(1), x.often(1, 1, 1), x.drunk(1, 2, 0, 0, 0), x.tread(1, 1), x.see(1, 0), x.sand(1), x.replace(1)};
        int[] due = {2, 2, 1000, 1, 1, 0, 40, 3, 1, 1, 0, 1, 6, 6};
        for (int i = 0; i < told.length; i++) {
            Due.is("call " + i + " of what there is anew", told[i], due[i]);
        }
    }

    // "An object is used for at most 512 calls": the last of them is as due as the first
    private static void answersOf512Calls() {
        String text = "f2;s2,0,1;s2,0,1;w1,0,1;";
        StileAccounts x = Fields.written(text);
        x.lay();
        int calls = text.length() + 1;
        for (int treads = 1; calls < 511; treads++) {
            Due.is("tread " + treads, x.tread(0, treads % 2), treads % 2);
            calls++;
        }
        Due.is("credit by the 512th call", x.count(6), 2 * (511 - text.length() - 1));
        StileAccounts letters = new StileAccounts();
        for (int i = 1; i <= 511; i++) {
            Due.is("write", letters.write(' '), i <= 200 ? i : FULL);
        }
        Due.is("wipe by the 512th call", letters.wipe(), 200);
        StileAccounts sanded = new StileAccounts();
        for (int i = 1; i <= 512; i++) {
            Due.is("sand", sanded.sand(6), Math.min(5 * i, 999));
        }
    }

    // Promise 1: what one object is called for changes no other one
    private static void objectsByThemselves() {
        StileAccounts x = Fields.lived();
        String due = Fields.standing(x);
        StileAccounts y = Fields.full();
        y.lay();
        y.wipe();
        y.back();
        Fields.most().tread(0, 0);
        Fields.same("what is done to others", x, due);
    }
}
