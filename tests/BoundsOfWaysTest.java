/**
 * Each bound that promises 13 to 18 name, and the terms behind them: WAY, EVEN, MEASURE, NEW, LASTS, RICHEST.
 * The remark ahead of each test is the sentence that it holds.
 */
public final class BoundsOfWaysTest {
    private static final int BAD = StileAccounts.BAD;
    private static final int NONE = StileAccounts.NONE;
    private static final String ROW = "f8;s2,0,1;s2,1,2;s2,2,3;s2,3,4;s2,4,5;s2,5,6;s2,6,7;";
    private static final String NINE_STONES = "f2;" + "s2,0,1;".repeat(9);
    private static final String NOT_LEVEL_OFF_THE_RING = "f4;s2,0,1;s2,1,2;s2,2,0;s0,0,3;w0,0,5;l10;";

    public static void main(String[] args) {
        going();
        gettingEven();
        measuring();
        newOnes();
        lasting();
        beingRichest();
        Due.end();
    }

    private static void wayIs(StileAccounts x, int w, int f, int treads, int first) {
        Due.is("treads of " + w + " to " + f, x.way(w, f, 0), treads);
        Due.is("first stile of " + w + " to " + f, x.way(w, f, 1), first);
    }

    // ---- promise 13

    private static void going() {
        waySuchAsThereAre();
        whatOfAWay();
        heIsThere();
        thereIsNoWay();
        badAheadOfNone();
        byStilesNotBrokenNow();
        fromNoneTo7Treads();
        theLowestOfSeveral();
        fewestAheadOfLowest();
        Bounds.onlyTells("way", Fields::lived, x -> x.way(0, 2, 1));
    }

    // "BAD: a number is none that is told (FIELDS, .. WALKERS: such as there are)"
    private static void waySuchAsThereAre() {
        Bounds.told("way of walker", Fields::lived, 0, 1, (x, w) -> x.way(w, 0, 0));
        Bounds.told("way to field", Fields::lived, 0, 3, (x, f) -> x.way(0, f, 0));
        Bounds.told("way of four", Fields::most, 0, 3, (x, w) -> x.way(w, 7, 1));
        Bounds.told("way to eight", Fields::most, 0, 7, (x, f) -> x.way(3, f, 1));
        Bounds.told("way of one", Fields::least, 0, 0, (x, w) -> x.way(w, 0, 0));
        Bounds.told("way to one", Fields::least, 0, 0, (x, f) -> x.way(0, f, 0));
    }

    // Promise 13, "how many (what = 0), the first STILE (1 ..) .. BAD"
    private static void whatOfAWay() {
        Bounds.told("what of way", Fields::lived, 0, 1, (x, what) -> x.way(0, 0, what));
        Bounds.refused("all are none", Fields::lived, BAD, x -> x.way(2, 4, 2));
    }

    // Promise 13, "NONE: he is there", and 0 TREADS: wherever he is, whatever is at his FIELD
    private static void heIsThere() {
        StileAccounts x = Fields.laid(ROW + "w0,0,1;w0,7,1;w0,3,1;");
        wayIs(x, 0, 0, 0, NONE);
        wayIs(x, 1, 7, 0, NONE);
        wayIs(x, 2, 3, 0, NONE);
        wayIs(Fields.least(), 0, 0, 0, NONE);
        StileAccounts broken = Fields.laid("f2;s0,0,1;w0,0,1;l10;");
        Fields.sands(broken, 0, 2);
        wayIs(broken, 0, 0, 0, NONE);
        Fields.treads(x, 0, 0);
        wayIs(x, 0, 1, 0, NONE);
        wayIs(x, 0, 0, 1, 0);
    }

    // Promise 13, "NONE": there is no way, neither how many nor the first STILE
    private static void thereIsNoWay() {
        wayIs(Fields.laid("f2;w0,0,1;"), 0, 1, NONE, NONE);
        wayIs(Fields.laid("f8;s0,0,1;s0,6,7;w0,0,1;"), 0, 7, NONE, NONE);
        StileAccounts x = Fields.laid(ROW + "w0,0,1;l10;");
        Fields.sands(x, 6, 2);
        wayIs(x, 0, 7, NONE, NONE);
        wayIs(x, 0, 6, 6, 0);
        Fields.sands(x, 0, 2);
        wayIs(x, 0, 6, NONE, NONE);
        wayIs(x, 0, 1, NONE, NONE);
    }

    // "BAD .. NONE .. Of several the first in this order, whatever the order at a call"
    private static void badAheadOfNone() {
        Bounds.refused("no such what, he is there", Fields::lived, BAD, x -> x.way(0, 1, 2));
        Bounds.refused("no such what, there is no way", Fields::lived, BAD, x -> x.way(0, 3, 2));
        Bounds.refused("no such walker, there is no way", Fields::lived, BAD, x -> x.way(2, 3, 0));
        Bounds.refused("there is no way", Fields::lived, NONE, x -> x.way(0, 3, 0));
    }

    // "by STILES that are not BROKEN now": worn by one less than L, by L, REPLACED, UNDONE
    private static void byStilesNotBrokenNow() {
        StileAccounts x = Fields.laid("f2;s0,0,1;w0,0,9;w0,0,1;l10;");
        Fields.treads(x, 0, 0);
        wayIs(x, 0, 0, 1, 0);
        Fields.treads(x, 1, 0);
        wayIs(x, 0, 0, NONE, NONE);
        x.undo();
        wayIs(x, 0, 0, 1, 0);
        x.sand(0);
        wayIs(x, 0, 0, NONE, NONE);
        x.replace(0);
        wayIs(x, 0, 0, 1, 0);
        StileAccounts heavy = Fields.laid("f3;s1,0,1;s1,1,2;w2,0,9;l10;");
        wayIs(heavy, 0, 2, 2, 0);
    }

    // "the fewest TREADS": from 0 to 7, both ways over each STILE
    private static void fromNoneTo7Treads() {
        for (int from = 0; from < 8; from++) {
            StileAccounts x = Fields.laid(ROW + "w0," + from + ",1;");
            for (int to = 0; to < 8; to++) {
                int first = from == to ? NONE : from < to ? from : from - 1;
                wayIs(x, 0, to, Math.abs(from - to), first);
            }
        }
        StileAccounts turned = Fields.laid("f8;s2,3,0;s2,7,3;s2,7,1;s2,5,1;s2,5,2;s2,6,2;s2,6,4;w0,0,1;");
        wayIs(turned, 0, 4, 7, 0);
    }

    // "the STILE that he TREADS first, of several the lowest"
    private static void theLowestOfSeveral() {
        StileAccounts x = Fields.laid(NINE_STONES + "w0,0,1;w0,1,1;l10;");
        for (int s = 0; s < 9; s++) {
            wayIs(x, 0, 1, 1, s);
            wayIs(x, 1, 0, 1, s);
            Fields.sands(x, s, 2);
        }
        wayIs(x, 0, 1, NONE, NONE);
        x.replace(8);
        wayIs(x, 0, 1, 1, 8);
        x.replace(4);
        wayIs(x, 0, 1, 1, 4);
        StileAccounts two = Fields.laid("f4;s2,1,3;s2,0,2;s2,0,1;s2,2,3;w0,0,1;");
        wayIs(two, 0, 3, 2, 1);
    }

    // "the fewest TREADS ..; the STILE that he TREADS first" of these: not a lower one by which there are more
    private static void fewestAheadOfLowest() {
        StileAccounts x = Fields.laid("f4;s2,0,1;s2,1,2;s2,2,3;s2,0,3;w0,0,1;");
        wayIs(x, 0, 3, 1, 3);
        wayIs(x, 0, 2, 2, 0);
    }

    // ---- promise 14

    private static void gettingEven() {
        evenSuchAsThereAre();
        levelAlready();
        brokenOnesAsOthers();
        overOthersAndBack();
        hisOwnOfNine();
        roundsThatPart();
        askedOnTheWay();
        thereIsNoEven();
        manyTreads();
        Bounds.onlyTells("even", Fields::lived, x -> x.even(0));
    }

    // "BAD: a number is none that is told (.. WALKERS: such as there are)"
    private static void evenSuchAsThereAre() {
        Bounds.told("even", Fields::lived, 0, 1, StileAccounts::even);
        Bounds.told("even of four", Fields::most, 0, 3, StileAccounts::even);
        Bounds.told("even of one", Fields::least, 0, 0, StileAccounts::even);
    }

    // "the fewest TREADS .. by which he is LEVEL": none if he is so now, and where there is no STILE
    private static void levelAlready() {
        Due.is("no stile", Fields.least().even(0), 0);
        StileAccounts x = Fields.laid("f2;s2,0,1;w0,0,1;w0,0,1;");
        Due.is("at first", x.even(0), 0);
        Fields.treads(x, 0, 0);
        Due.is("one", x.even(0), 1);
        Due.is("of another", x.even(1), 0);
        Fields.treads(x, 0, 0);
        Due.is("over and back", x.even(0), 0);
        Fields.treads(x, 0, 0);
        x.replace(0);
        Due.is("replaced", x.even(0), 0);
        x.undo();
        Due.is("undone", x.even(0), 1);
    }

    // "BROKEN ones as others"
    private static void brokenOnesAsOthers() {
        StileAccounts x = Fields.laid("f3;s0,0,1;s0,1,2;w0,0,5;l10;");
        Fields.treads(x, 0, 0, 1);
        Due.is("two", x.even(0), 2);
        x.sand(0);
        x.sand(1);
        Due.is("both are broken", x.count(4), 2);
        Due.is("two broken ones", x.even(0), 2);
    }

    // "the fewest TREADS, one behind the other from where he is": by others, over and back, BROKEN ones too
    private static void overOthersAndBack() {
        StileAccounts x = Fields.laid(NOT_LEVEL_OFF_THE_RING);
        Fields.treads(x, 0, 0, 1, 2);
        Due.is("round", x.even(0), 3);
        Fields.treads(x, 0, 3);
        Due.is("round and on", x.even(0), 4);
        x.replace(3);
        Due.is("off the ring", x.even(0), 5);
        Fields.sands(x, 3, 2);
        Due.is("off the ring by a broken one", x.even(0), 5);
        StileAccounts far = Fields.laid("f8;s2,0,1;s2,0,1;s2,1,2;s2,2,3;s2,3,4;s2,4,5;s2,5,6;s2,6,7;w0,1,1;");
        Fields.treads(far, 0, 0, 1, 2, 3, 4, 5, 6, 7);
        Due.is("6 over, 2 round", far.even(0), 8);
        for (int s = 2; s <= 7; s++) {
            far.replace(s);
        }
        Due.is("6 over, 2 round, 6 back", far.even(0), 14);
    }

    // "LEVEL, if all his ACCOUNTS are 0": his own alone, of nine STILES, for the first and for the fourth WALKER
    private static void hisOwnOfNine() {
        StileAccounts x = Fields.laid(NINE_STONES + "w0,0,1;w0,0,1;w0,0,1;w0,1,1;");
        Fields.treads(x, 0, 7, 8);
        Fields.treads(x, 1, 0);
        Fields.treads(x, 2, 0, 1, 0);
        Fields.treads(x, 3, 8, 7, 6, 5, 4, 3, 2, 1, 0);
        int[] due = {2, 1, 3, 9};
        for (int w = 0; w < 4; w++) {
            Due.is("even of " + w, x.even(w), due[w]);
        }
    }

    // "the fewest TREADS, one behind the other": rounds that part from one another at two FIELDS
    private static void roundsThatPart() {
        StileAccounts x = Fields.laid("f4;s2,0,1;s2,0,1;s2,0,2;s2,0,2;s2,1,3;s2,1,3;w0,0,1;");
        Fields.treads(x, 0, 0, 4, 5, 1, 2, 3);
        Due.is("three rounds", x.even(0), 6);
        x.replace(0);
        x.replace(1);
        Due.is("two rounds, and over and back between", x.even(0), 6);
        x.replace(2);
        x.replace(3);
        Due.is("the far round, and over and back to it", x.even(0), 4);
    }

    // "from where he is": now, whatever was asked before, from the first FIELD to the eighth and back
    private static void askedOnTheWay() {
        StileAccounts x = Fields.laid(ROW + "w0,0,1;");
        for (int i = 1; i <= 7; i++) {
            Fields.treads(x, 0, i - 1);
            Due.is("even in field " + i, x.even(0), i);
        }
        for (int i = 6; i >= 0; i--) {
            Fields.treads(x, 0, i);
            Due.is("even back in field " + i, x.even(0), i);
        }
    }

    // "none (there are none such)"
    private static void thereIsNoEven() {
        StileAccounts two = Fields.laid(ROW + "w0,0,1;");
        Fields.treads(two, 0, 0, 1, 2);
        two.replace(1);
        Due.is("two walks", two.even(0), NONE);
        StileAccounts away = Fields.laid(ROW + "w0,0,1;");
        Fields.treads(away, 0, 0, 1);
        away.replace(1);
        Due.is("not from where he is", away.even(0), NONE);
        Fields.treads(away, 0, 1);
        Due.is("from there", away.even(0), NONE);
        away.replace(1);
        Due.is("from there, that one replaced", away.even(0), 1);
        StileAccounts twice = Fields.laid("f2;s2,0,1;s2,0,1;w0,0,1;");
        Fields.treads(twice, 0, 0, 1, 0, 1);
        twice.replace(1);
        Due.is("twice the same way", twice.even(0), NONE);
        StileAccounts gate = Fields.laid("f3;s3,0,1;s3,1,2;w3,0,1;");
        Fields.treads(gate, 0, 0, 1);
        gate.replace(1);
        Due.is("gates are as others", gate.even(0), NONE);
    }

    // "the fewest TREADS": many, on both sides of 0
    private static void manyTreads() {
        StileAccounts x = Fields.laid("f2;s2,0,1;s2,0,1;w0,0,1;");
        for (int i = 1; i <= 200; i++) {
            x.tread(0, 0);
            x.tread(0, 1);
            if (i % 50 == 0) {
                Due.is("even behind " + i + " rounds", x.even(0), 2 * i);
            }
        }
        Fields.treads(x, 0, 0);
        Due.is("one more", x.even(0), 401);
        Fields.treads(x, 0, 0, 1);
        Due.is("one round less, and one", x.even(0), 399);
    }

    // ---- promise 15

    private static void measureIs(StileAccounts x, int bits) {
        Due.is("which are measured", x.measure(0), bits);
        Due.is("how many are measured", x.measure(1), Integer.bitCount(bits));
    }

    private static void measuring() {
        whatOfMeasure();
        nobodyIsNotLevel();
        fromTheFirstToTheLastStile();
        accountsOtherThan0();
        fewestOfSets();
        lowestAsBits();
        Bounds.onlyTells("measure", Fields::lived, x -> x.measure(0));
    }

    // Promise 15, "which (what = 0; bits), how many (1). BAD"
    private static void whatOfMeasure() {
        Bounds.told("what of measure", Fields::lived, 0, 1, StileAccounts::measure);
        Bounds.told("what of measure of the most", Fields::most, 0, 1, StileAccounts::measure);
        Bounds.told("what of measure of the least", Fields::least, 0, 1, StileAccounts::measure);
    }

    // "each WALKER that is not LEVEL": there is none, or no STILE: the set of none
    private static void nobodyIsNotLevel() {
        measureIs(Fields.least(), 0);
        measureIs(new StileAccounts(), 0);
        StileAccounts x = Fields.laid(NINE_STONES + "w0,0,1;");
        Fields.treads(x, 0, 3, 3);
        measureIs(x, 0);
        Fields.treads(x, 0, 3);
        measureIs(x, 8);
        x.replace(3);
        measureIs(x, 0);
    }

    // "bits": 1 for the first STILE, 256 for the ninth; all four WALKERS'
    private static void fromTheFirstToTheLastStile() {
        StileAccounts x = Fields.laid(NINE_STONES + "w0,0,1;w0,1,1;w0,0,1;w0,1,1;");
        Fields.treads(x, 0, 0);
        measureIs(x, 1);
        Fields.treads(x, 3, 8);
        measureIs(x, 1 + 256);
        Fields.treads(x, 1, 7);
        measureIs(x, 1 + 128 + 256);
        Fields.treads(x, 2, 4);
        measureIs(x, 1 + 16 + 128 + 256);
    }

    // "an ACCOUNT other than 0": also less than 0, also of what is BROKEN, also of a GATE
    private static void accountsOtherThan0() {
        StileAccounts less = Fields.laid("f2;s0,0,1;s3,0,1;w0,1,9;l10;");
        Fields.treads(less, 0, 1);
        measureIs(less, 2);
        Fields.treads(less, 0, 1, 0);
        measureIs(less, 1);
        Due.is("1 less", less.account(0, 0), 999);
        less.sand(0);
        Due.is("broken", less.stile(0, 4), 1);
        measureIs(less, 1);
    }

    // "of sets of STILES .. that of fewest": one that is higher, not two that are lower
    private static void fewestOfSets() {
        StileAccounts x = Fields.laid(NINE_STONES + "w0,0,1;w0,0,1;");
        Fields.treads(x, 0, 0, 8);
        measureIs(x, 1);
        Fields.treads(x, 1, 1, 8);
        measureIs(x, 256);
        x.replace(8);
        measureIs(x, 3);
    }

    // "of several the lowest as bits": 1 and 2 (6), not 0 and 3 (9)
    private static void lowestAsBits() {
        StileAccounts x = Fields.laid(NINE_STONES + "w0,0,1;w0,0,1;w0,0,1;w0,0,1;");
        Fields.treads(x, 0, 7, 8);
        measureIs(x, 128);
        x.replace(7);
        x.replace(8);
        Fields.treads(x, 0, 0, 1);
        Fields.treads(x, 1, 0, 2);
        Fields.treads(x, 2, 1, 3);
        Fields.treads(x, 3, 2, 3);
        measureIs(x, 6);
    }

    // ---- promise 16

    private static void freshIs(StileAccounts x, int which, int byHowMuch) {
        Due.is("which is new", x.fresh(0), which);
        Due.is("by how much", x.fresh(1), byHowMuch);
    }

    private static void newOnes() {
        whatOfFresh();
        noTwoFieldsWithout();
        aBrokenOneCountsAsOne();
        twentyIfThereAreNone();
        theFirstByTheLower();
        theFirstByTheHigher();
        theHighestTwo();
        Bounds.onlyTells("fresh", Fields::lived, x -> x.fresh(1));
    }

    // Promise 16, "which (what = 0), by how much (1) .. BAD"; BAD ahead of NONE
    private static void whatOfFresh() {
        Bounds.told("what of fresh", Fields::lived, 0, 1, StileAccounts::fresh);
        Bounds.told("what of fresh of the most", Fields::most, 0, 1, StileAccounts::fresh);
        Bounds.told("what of fresh of the least", Fields::least, 0, 1, StileAccounts::fresh);
    }

    // "none": one FIELD, or a STILE between all two, from whichever it leads
    private static void noTwoFieldsWithout() {
        Bounds.refused("which of one field", Fields::least, NONE, x -> x.fresh(0));
        Bounds.refused("by how much of one field", Fields::least, NONE, x -> x.fresh(1));
        freshIs(Fields.laid("f2;s0,0,1;w0,0,1;"), NONE, NONE);
        freshIs(Fields.laid("f2;s3,1,0;w0,0,1;"), NONE, NONE);
        freshIs(Fields.laid("f3;s0,1,0;s2,2,1;s1,0,2;w0,0,1;"), NONE, NONE);
        freshIs(Fields.laid("f4;s0,0,1;s0,2,0;s0,0,3;s0,2,1;s0,1,3;s0,3,2;w0,0,1;"), NONE, NONE);
        freshIs(Fields.laid("f2;w0,0,1;"), 1, 19);
    }

    // "(a BROKEN one counts as one)", but nobody goes over it: worn by one less than L, and by L
    private static void aBrokenOneCountsAsOne() {
        StileAccounts two = Fields.laid("f2;s0,0,1;w0,0,1;l10;");
        Fields.sands(two, 0, 2);
        freshIs(two, NONE, NONE);
        StileAccounts x = Fields.laid("f3;s0,0,1;s0,1,2;w0,0,9;w0,0,1;l10;");
        Fields.treads(x, 0, 0);
        freshIs(x, 2, 1);
        Fields.treads(x, 1, 0);
        // 01, 02: 20 now, 2 and 1 by it
        freshIs(x, 2, 37);
        x.replace(0);
        freshIs(x, 2, 1);
    }

    // "20, if there are none": in what is now and in what would be
    private static void twentyIfThereAreNone() {
        for (int n = 2; n <= 8; n++) {
            freshIs(Fields.laid("f" + n + ";w0,0,1;"), 1, 19);
        }
        // 02 joins two and one: 02 1, 12 2
        freshIs(Fields.laid("f4;s0,0,1;w0,0,1;"), 2, 19 + 18);
        // 04 makes a ring of a row of 5: 04 4 to 1, 03 and 14 3 to 2
        freshIs(Fields.laid("f5;s0,0,1;s0,1,2;s0,2,3;s0,3,4;w0,0,1;"), 4, 5);
    }

    // "of several the first (by the lower": 03, not 12, which are least alike
    private static void theFirstByTheLower() {
        freshIs(Fields.laid("f4;s0,1,0;s0,0,2;s0,2,3;w0,0,1;"), 3, 2);
        freshIs(Fields.laid("f4;s0,3,2;s0,2,0;s0,1,0;w0,0,1;"), 3, 2);
        // 1 and 2, 3 and 4 are joined, 0 alone: 01, 02, .. save 37, 13, 14, .. 72
        freshIs(Fields.laid("f5;s0,1,2;s0,4,3;w0,0,1;"), 13, 72);
    }

    // ", then the higher)": 02, not 03, which are least alike
    private static void theFirstByTheHigher() {
        freshIs(Fields.laid("f4;s0,0,1;s0,1,3;s0,3,2;w0,0,1;"), 2, 2);
        freshIs(Fields.laid("f4;s0,0,1;s0,1,2;s0,2,3;w0,0,1;"), 2, 2);
        freshIs(Fields.laid("f4;s0,0,1;s0,2,3;w0,0,1;"), 2, 72);
    }

    // "10 times the lower and the higher": up to 67; "by how much less that is than now": from 1 on
    private static void theHighestTwo() {
        freshIs(Fields.laid("f4;s2,0,1;s2,0,2;s2,0,3;s2,1,2;s2,1,3;w0,0,1;"), 23, 1);
        // two stars round 6 and 7: between them 16 of 20 now, 1 of 1, 6 of 2, 9 of 3 by it
        freshIs(Fields.laid("f8;s2,6,0;s2,6,1;s2,6,2;s2,7,3;s2,7,4;s2,5,7;w0,0,1;"), 67, 320 - 40);
    }

    // ---- promise 17

    private static void lasting() {
        lastsSuchAsThereAre();
        brokenNow();
        behindHowManyTreads();
        neverBroken();
        Bounds.onlyTells("lasts", Fields::lived, x -> x.lasts(0, 1));
    }

    // "BAD: a number is none that is told (.. STILES, WALKERS: such as there are)"; BAD ahead of NONE
    private static void lastsSuchAsThereAre() {
        Bounds.told("lasts of stile", Fields::lived, 0, 2, (x, s) -> x.lasts(s, 0));
        Bounds.told("lasts for walker", Fields::lived, 0, 1, (x, w) -> x.lasts(2, w));
        Bounds.told("lasts of nine", Fields::most, 0, 8, (x, s) -> x.lasts(s, 3));
        Bounds.told("lasts for four", Fields::most, 0, 3, (x, w) -> x.lasts(8, w));
        Bounds.beyond("lasts of none", Fields::least, 0, -1, (x, s) -> x.lasts(s, 0));
        Bounds.refused("both are none", Fields::lived, BAD, x -> x.lasts(3, 2));
    }

    // "(0: it is now)": worn by one less than L, by L, by 999; of each KIND
    private static void brokenNow() {
        StileAccounts x = Fields.laid("f2;s0,0,1;w0,0,9;w0,0,1;l10;");
        Due.is("worn by nothing", x.lasts(0, 1), 10);
        Fields.treads(x, 0, 0);
        Due.is("worn by one less", x.lasts(0, 1), 1);
        Due.is("worn by one less, for the heavy one", x.lasts(0, 0), 1);
        Fields.treads(x, 1, 0);
        Due.is("worn by just L", x.lasts(0, 1), 0);
        Fields.sands(x, 0, 200);
        Due.is("worn by the most", x.lasts(0, 1), 0);
        for (int s = 0; s < 4; s++) {
            StileAccounts sanded = Fields.laid("f2;s0,0,1;s1,0,1;s2,0,1;s3,0,1;w3,0,1;l10;");
            Fields.sands(sanded, s, 2);
            Due.is("sanded", sanded.lasts(s, 0), 0);
        }
    }

    // "behind how many TREADS of his over it, it is BROKEN": as many as come to just L, one more for what is left
    private static void behindHowManyTreads() {
        for (int kind = 0; kind <= 2; kind += 2) {
            for (int l = 10; l <= 99; l += 1 + l % 7) {
                for (int heavy = 1; heavy <= 9; heavy += 4) {
                    int wear = kind == 2 ? 2 * heavy : heavy;
                    StileAccounts x = Fields.laid("f2;s0,0,1;s1,0,1;w" + kind + ",0," + heavy + ";l" + l + ";");
                    Due.is("oak, " + l + " by " + wear, x.lasts(0, 0), (l + wear - 1) / wear);
                    Due.is("elm, " + l + " by " + 2 * wear, x.lasts(1, 0), (l + 2 * wear - 1) / (2 * wear));
                    x.sand(0);
                    Due.is("oak, " + (l - 5) + " by " + wear, x.lasts(0, 0), (l - 5 + wear - 1) / wear);
                }
            }
        }
        Due.is("99 by 1", Fields.laid("s0,0,1;w0,0,1;l99;").lasts(0, 0), 99);
        Due.is("36 by 36", Fields.laid("s1,0,1;w2,0,9;l36;").lasts(0, 0), 1);
        Due.is("37 by 36", Fields.laid("s1,0,1;w2,0,9;l37;").lasts(0, 0), 2);
    }

    // "none": a STONE, a GATE is worn by nothing, also if it is worn by one less than L
    private static void neverBroken() {
        StileAccounts x = Fields.laid("f2;s2,0,1;s3,0,1;w0,0,9;w2,0,9;l11;");
        for (int s = 0; s < 2; s++) {
            Due.is("worn by nothing", x.lasts(s, 0), NONE);
            Due.is("worn by nothing, for a sander", x.lasts(s, 1), NONE);
            Fields.sands(x, s, 2);
            Due.is("worn by one less", x.lasts(s, 0), NONE);
            Due.is("worn by one less, for a sander", x.lasts(s, 1), NONE);
            x.sand(s);
            Due.is("broken", x.lasts(s, 0), 0);
            Due.is("broken, for a sander", x.lasts(s, 1), 0);
        }
    }

    // ---- promise 18

    // "the WALKER with most CREDIT, of several the lowest": nobody has any, each alone, all alike
    private static void beingRichest() {
        Due.is("of one", Fields.least().richest(), 0);
        for (int rich = 0; rich < 4; rich++) {
            StileAccounts x = Fields.laid("f2;s2,0,1;s3,0,1;w0,0,1;w0,0,1;w0,0,1;w0,0,1;");
            Due.is("nobody has any", x.richest(), 0);
            Fields.treads(x, rich, 0);
            Due.is("he alone", x.richest(), rich);
            for (int w = 3; w >= 0; w--) {
                if (w != rich) {
                    Fields.treads(x, w, 1, 0);
                }
                Due.is("the lowest of several down to " + w, x.richest(), Math.min(w, rich));
            }
            Fields.treads(x, 3, 0);
            Due.is("one more", x.richest(), 3);
            x.undo();
            Due.is("one less", x.richest(), 0);
        }
        Bounds.onlyTells("richest", Fields::lived, StileAccounts::richest);
    }
}
