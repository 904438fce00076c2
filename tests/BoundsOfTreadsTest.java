/**
 * Each bound that promises 6 to 12 name, and the terms behind them: what is worn, CREDIT, ACCOUNTS, LEVEL, BROKEN,
 * REPLACED, SANDED, UNDONE. The remark ahead of each test is the sentence that it holds.
 */
public final class BoundsOfTreadsTest {
    private static final int NO = StileAccounts.NO;
    private static final int NONE = StileAccounts.NONE;
    private static final String ALL_KINDS = "f2;s0,0,1;s1,0,1;s2,0,1;s3,0,1;";

    public static void main(String[] args) {
        tellingOfStiles();
        tellingOfWalkers();
        tellingOfAccounts();
        treading();
        wearing();
        crediting();
        replacing();
        sanding();
        undoing();
        Due.end();
    }

    // ---- promise 6

    private static void tellingOfStiles() {
        stilesSuchAsThereAre();
        whatOfAStile();
        leastAndMostOfAStile();
        brokenByTheLimit();
        Bounds.onlyTells("stile", Fields::lived, x -> x.stile(1, 4));
    }

    // "BAD: a number is none that is told (.. STILES ..: such as there are)"
    private static void stilesSuchAsThereAre() {
        for (int what = 0; what <= 4; what++) {
            int asked = what;
            Bounds.told("stile", Fields::lived, 0, 2, (x, s) -> x.stile(s, asked));
        }
        Bounds.told("stile of nine", Fields::most, 0, 8, (x, s) -> x.stile(s, 0));
        Bounds.beyond("stile of none", Fields::least, 0, -1, (x, s) -> x.stile(s, 0));
        StileAccounts x = Fields.least();
        x.wipe();
        Fields.write(x, "s0,0,1;w0,0,1;");
        Due.is("a stile that is written, not laid", x.stile(0, 0), -1);
        x.lay();
        Due.is("a stile that is laid", x.stile(0, 0), 0);
    }

    // Promise 6, "KIND (what = 0) .. 1 if BROKEN (4). BAD"
    private static void whatOfAStile() {
        Bounds.told("what of stile", Fields::lived, 0, 4, (x, what) -> x.stile(0, what));
        Bounds.refused("both are none", Fields::lived, -1, x -> x.stile(3, 5));
    }

    // Promise 6, "KIND .., A .., B .., what it is worn by": 0 to 3, 0 to 7, 0 to 999
    private static void leastAndMostOfAStile() {
        StileAccounts x = Fields.laid("f8;s0,0,7;s3,7,0;w0,0,1;");
        int[][] due = {{0, 0, 7, 0, 0}, {3, 7, 0, 0, 0}};
        for (int s = 0; s < 2; s++) {
            for (int what = 0; what <= 4; what++) {
                Due.is("stile(" + s + ", " + what + ")", x.stile(s, what), due[s][what]);
            }
        }
        Fields.sands(x, 1, 200);
        Due.is("worn by the most", x.stile(1, 3), 999);
        Due.is("broken by the most", x.stile(1, 4), 1);
        Due.is("another one", x.stile(0, 3), 0);
    }

    // "A STILE that is worn by L or more is BROKEN", of each KIND
    private static void brokenByTheLimit() {
        for (int s = 0; s < 4; s++) {
            StileAccounts x = Fields.laid(ALL_KINDS + "w0,0,1;l15;");
            Fields.sands(x, s, 2);
            Due.is("worn by 10 of 15", x.stile(s, 4), 0);
            Fields.sands(x, s, 1);
            Due.is("worn by 15 of 15", x.stile(s, 4), 1);
            Due.is("a tread over it", x.tread(0, s), NO);
            Due.is("no other one is broken", x.count(4), 1);
            StileAccounts less = Fields.laid(ALL_KINDS + "w0,0,1;l16;");
            Fields.sands(less, s, 3);
            Due.is("worn by 15 of 16", less.stile(s, 4), 0);
            Due.is("a tread over what is worn by one less", less.tread(0, s), 1);
        }
    }

    // ---- promise 7

    private static void tellingOfWalkers() {
        walkersSuchAsThereAre();
        whatOfAWalker();
        leastAndMostOfAWalker();
        levelIfAllAccountsAre0();
        theLatestTread();
        Bounds.onlyTells("walker", Fields::lived, x -> x.walker(1, 4));
    }

    // "BAD: a number is none that is told (.. WALKERS: such as there are)"
    private static void walkersSuchAsThereAre() {
        for (int what = 0; what <= 4; what++) {
            int asked = what;
            Bounds.told("walker", Fields::lived, 0, 1, (x, w) -> x.walker(w, asked));
        }
        Bounds.told("walker of four", Fields::most, 0, 3, (x, w) -> x.walker(w, 0));
        Bounds.told("walker of one", Fields::least, 0, 0, (x, w) -> x.walker(w, 0));
        StileAccounts x = Fields.least();
        Fields.write(x, "w0,0,1;");
        Due.is("a walker who is written, not laid", x.walker(1, 0), -1);
        x.lay();
        Due.is("a walker who is laid", x.walker(1, 0), 0);
    }

    // Promise 7, "KIND (what = 0) .. the STILE of his latest TREAD (5; NONE). BAD"
    private static void whatOfAWalker() {
        Bounds.told("what of walker", Fields::lived, 0, 5, (x, what) -> x.walker(0, what));
        Bounds.refused("both are none", Fields::lived, -1, x -> x.walker(2, 6));
    }

    // Promise 7, "KIND .., FIELD .., how heavy .., CREDIT": 0 to 3, 0 to 7, 1 to 9, from 0 on
    private static void leastAndMostOfAWalker() {
        StileAccounts x = Fields.laid("f8;s2,7,0;w0,0,1;w3,7,9;w1,0,5;");
        int[][] due = {{0, 0, 1, 0, 1, NONE}, {3, 7, 9, 0, 1, NONE}};
        for (int w = 0; w < 2; w++) {
            for (int what = 0; what <= 5; what++) {
                Due.is("walker(" + w + ", " + what + ")", x.walker(w, what), due[w][what]);
            }
        }
        for (int i = 1; i <= 400; i++) {
            x.tread(2, 0);
        }
        Due.is("credit of 400 treads of a tall one", x.walker(2, 3), 800);
        Due.is("level by 400 treads", x.walker(2, 4), 1);
        Due.is("credit of another", x.walker(0, 3), 0);
    }

    // "He is LEVEL, if all his ACCOUNTS are 0": not if their sum is, not if one is less, be it the first or the last
    private static void levelIfAllAccountsAre0() {
        StileAccounts x = Fields.laid("f2;s2,0,1;" + "s2,0,1;".repeat(7) + "s2,1,0;w0,0,1;w0,0,1;");
        Fields.treads(x, 0, 0);
        Due.is("1 of the first", x.walker(0, 4), 0);
        Fields.treads(x, 0, 1);
        Due.is("1 of one and 1 less of another", x.walker(0, 4), 0);
        Due.is("another is level", x.walker(1, 4), 1);
        Fields.treads(x, 0, 1, 0);
        Due.is("level again", x.walker(0, 4), 1);
        Fields.treads(x, 0, 8);
        Due.is("1 less of the last", x.account(0, 8), 999);
        Due.is("1 less of the last: level", x.walker(0, 4), 0);
        x.replace(8);
        Due.is("level by what is replaced", x.walker(0, 4), 1);
    }

    // Promise 7, "the STILE of his latest TREAD (5; NONE)"
    private static void theLatestTread() {
        StileAccounts x = Fields.laid("f2;" + "s2,0,1;".repeat(9) + "w0,0,1;w0,0,1;l10;");
        Due.is("none", x.walker(0, 5), NONE);
        Fields.treads(x, 0, 8);
        Due.is("the last one", x.walker(0, 5), 8);
        Due.is("none of another", x.walker(1, 5), NONE);
        Fields.treads(x, 0, 0);
        Due.is("the first one", x.walker(0, 5), 0);
        Fields.sands(x, 1, 2);
        Due.is("a refused tread", x.tread(0, 1), NO);
        Due.is("a bad tread", x.tread(0, 9), -1);
        x.replace(3);
        Due.is("is no latest one", x.walker(0, 5), 0);
        StileAccounts one = Fields.laid("f2;s2,0,1;w0,0,1;");
        Fields.treads(one, 0, 0);
        one.undo();
        Due.is("none is left by undo", one.walker(0, 5), NONE);
    }

    // ---- promise 8

    private static void tellingOfAccounts() {
        accountsSuchAsThereAre();
        accountAnd1000();
        Bounds.onlyTells("account", Fields::lived, x -> x.account(0, 1));
    }

    // "BAD: a number is none that is told (.. STILES, WALKERS: such as there are)"
    private static void accountsSuchAsThereAre() {
        Bounds.told("account of walker", Fields::lived, 0, 1, (x, w) -> x.account(w, 0));
        Bounds.told("account of stile", Fields::lived, 0, 2, (x, s) -> x.account(0, s));
        Bounds.told("account of four", Fields::most, 0, 3, (x, w) -> x.account(w, 8));
        Bounds.told("account of nine", Fields::most, 0, 8, (x, s) -> x.account(3, s));
        Bounds.beyond("account of no stile", Fields::least, 0, -1, (x, s) -> x.account(0, s));
        Bounds.refused("both are none", Fields::lived, -1, x -> x.account(2, 3));
    }

    // Promise 8, "An ACCOUNT, and 1000": "1 more, if he went from A to B, 1 less, if from B to A", on both sides of 0
    private static void accountAnd1000() {
        StileAccounts x = Fields.laid("f8;s2,7,0;s3,7,0;w0,7,1;w3,0,9;");
        Due.is("none", x.account(0, 0), 1000);
        Fields.treads(x, 0, 0);
        Due.is("from A to B", x.account(0, 0), 1001);
        Fields.treads(x, 0, 0);
        Due.is("and back", x.account(0, 0), 1000);
        Fields.treads(x, 1, 0);
        Due.is("from B to A", x.account(1, 0), 999);
        Due.is("another's", x.account(0, 0), 1000);
        Fields.treads(x, 1, 1);
        Due.is("of a gate", x.account(1, 1), 1001);
        for (int i = 0; i < 150; i++) {
            x.tread(0, 0);
            x.tread(0, 1);
        }
        Due.is("150 more", x.account(0, 0), 1150);
        Due.is("150 less", x.account(0, 1), 850);
    }

    // ---- promise 9

    private static void treading() {
        treadsSuchAsThereAre();
        notAtHisField();
        brokenOrWornByOneLess();
        badAheadOfNo();
        inWhichFieldHeIsThen();
    }

    // "BAD: a number is none that is told (.. STILES, WALKERS: such as there are)"
    private static void treadsSuchAsThereAre() {
        Bounds.told("tread of walker", Fields::lived, 0, 1, (x, w) -> x.tread(w, 2));
        Bounds.told("tread over stile", Fields::lived, 0, 2, (x, s) -> x.tread(0, s));
        Bounds.told("tread of four", Fields::most, 0, 3, (x, w) -> x.tread(w, 8));
        Bounds.told("tread over nine", Fields::most, 0, 8, (x, s) -> x.tread(0, s));
        Bounds.beyond("tread over none", Fields::least, 0, -1, (x, s) -> x.tread(0, s));
    }

    // Promise 9, "NO: not at his FIELD"
    private static void notAtHisField() {
        StileAccounts x = Fields.laid("f4;s0,0,1;s0,1,2;s0,2,3;w0,1,1;");
        Due.is("at neither end", x.tread(0, 2), NO);
        Due.is("at its B", x.tread(0, 0), 0);
        Due.is("at neither end any more", x.tread(0, 1), NO);
        Due.is("at its A", x.tread(0, 0), 1);
        Bounds.refused("tread over what is not at his field", () -> Fields.laid(Fields.MOST), NO, y -> y.tread(3, 0));
    }

    // Promise 9, "NO: .. BROKEN": "worn by L or more", not by one less; nothing changes then, nor can it be UNDONE
    private static void brokenOrWornByOneLess() {
        Bounds.refused("tread over what is broken", Fields::lived, NO, x -> x.tread(1, 1));
        Bounds.refused("tread over what is broken by the most", Fields::full, NO, x -> x.tread(0, 0));
        for (int heavy = 1; heavy <= 9; heavy++) {
            StileAccounts x = Fields.laid("f2;s0,0,1;w0,0,9;w0,0," + heavy + ";w0,0,1;l" + (9 + heavy) + ";");
            Fields.treads(x, 0, 0);
            Due.is("over what is worn by " + heavy + " less", x.tread(1, 0), 1);
            Due.is("over what is worn by the limit", x.tread(2, 0), NO);
            StileAccounts less = Fields.laid("f2;s0,0,1;w0,0,9;w0,0," + heavy + ";w0,0,1;l" + (10 + heavy) + ";");
            Fields.treads(less, 0, 0);
            Fields.treads(less, 1, 0);
            Due.is("over what is worn by one less", less.tread(2, 0), 1);
            Due.is("over what is worn by the limit then", less.tread(2, 0), NO);
        }
    }

    // "BAD .. NO .. Of several the first in this order, whatever the order at a call"
    private static void badAheadOfNo() {
        Bounds.refused("no such walker, broken", Fields::lived, -1, x -> x.tread(2, 1));
        Bounds.refused("no such walker, not at field 0", Fields::lived, -1, x -> x.tread(-1, 1));
        Bounds.refused("no such stile", Fields::lived, -1, x -> x.tread(1, 3));
        Bounds.refused("neither", Fields::lived, -1, x -> x.tread(4, 9));
    }

    // "he is in the FIELD at its other end": 0 to 7, from either
    private static void inWhichFieldHeIsThen() {
        StileAccounts x = Fields.laid("f8;s0,0,7;s3,7,0;s0,7,6;w0,0,1;w0,7,1;");
        Due.is("from A to B", x.tread(0, 0), 7);
        Due.is("from B to A", x.tread(0, 0), 0);
        Due.is("from B to A", x.tread(0, 1), 7);
        Due.is("from A to B", x.tread(0, 1), 0);
        Due.is("he is there", x.walker(0, 1), 0);
        Due.is("from the last", x.tread(1, 2), 6);
        Due.is("another one is where he was", x.walker(0, 1), 0);
        Due.is("treads", x.count(3), 5);
    }

    // ---- promise 9: what is worn

    private static void wearing() {
        wornByHisWeight();
        aTreadBeyondTheLimit();
        onlyThatStileIsWorn();
    }

    // "It is worn by as much more as he is heavy, an ELM one by twice that, a STONE one, a GATE by nothing; by a
    // SANDER by twice what it would be else": from 1 to 9, of all KINDS
    private static void wornByHisWeight() {
        int[] ofStiles = {1, 2, 0, 0};
        int[] ofWalkers = {1, 1, 2, 1};
        for (int kind = 0; kind < 4; kind++) {
            for (int heavy = 1; heavy <= 9; heavy++) {
                StileAccounts x = Fields.laid(ALL_KINDS + "w" + kind + ",0," + heavy + ";l99;");
                for (int s = 0; s < 4; s++) {
                    int due = heavy * ofStiles[s] * ofWalkers[kind];
                    Fields.treads(x, 0, s);
                    Due.is("worn by one tread", x.stile(s, 3), due);
                    Fields.treads(x, 0, s);
                    Due.is("worn by two treads", x.stile(s, 3), 2 * due);
                }
            }
        }
    }

    // "worn by as much more": all of it, also if it is BROKEN by less: the most is 98 and 36
    private static void aTreadBeyondTheLimit() {
        StileAccounts x = Fields.laid("f2;s1,0,1;w2,0,9;w0,0,9;w0,0,4;l99;");
        Fields.treads(x, 0, 0, 0);
        Fields.treads(x, 1, 0);
        Fields.treads(x, 2, 0);
        Due.is("worn by one less than L", x.stile(0, 3), 98);
        Fields.treads(x, 0, 0);
        Due.is("worn by the most of a tread", x.stile(0, 3), 134);
        Due.is("broken", x.stile(0, 4), 1);
        StileAccounts least = Fields.laid("f2;s0,0,1;w0,0,9;w0,0,1;l10;");
        Fields.treads(least, 0, 0);
        Fields.treads(least, 1, 0);
        Due.is("worn by just L", least.stile(0, 3), 10);
    }

    // "It is worn": no other STILE between the same FIELDS, no ACCOUNT of another WALKER
    private static void onlyThatStileIsWorn() {
        StileAccounts x = Fields.laid("f2;" + "s0,0,1;".repeat(9) + "w0,0,3;w0,0,3;");
        Fields.treads(x, 1, 8);
        for (int s = 0; s < 9; s++) {
            Due.is("worn " + s, x.stile(s, 3), s == 8 ? 3 : 0);
            Due.is("account of " + s, x.account(1, s), s == 8 ? 1001 : 1000);
            Due.is("another's account of " + s, x.account(0, s), 1000);
        }
    }

    // ---- promise 9: CREDIT

    // "He has 1 of CREDIT more, a TALL one 2, a CARRIED one nothing; over a GATE nobody has any"
    private static void crediting() {
        int[] ofWalkers = {1, 2, 1, 0};
        for (int kind = 0; kind < 4; kind++) {
            StileAccounts x = Fields.laid(ALL_KINDS + "w" + kind + ",0,9;w0,0,1;l99;");
            int due = 0;
            for (int s = 0; s < 4; s++) {
                Fields.treads(x, 0, s);
                due += s == 3 ? 0 : ofWalkers[kind];
                Due.is("credit of kind " + kind + " over " + s, x.walker(0, 3), due);
                Due.is("credit of another", x.walker(1, 3), 0);
            }
        }
    }

    // ---- promise 10

    private static void replacing() {
        replacedSuchAsThereAre();
        whatItWasWornBy();
        allAccountsOfIt();
        replacedAsNothingWas();
    }

    // "BAD: a number is none that is told (.. STILES ..: such as there are)"
    private static void replacedSuchAsThereAre() {
        Bounds.told("replace", Fields::lived, 0, 2, StileAccounts::replace);
        Bounds.told("replace of nine", Fields::most, 0, 8, StileAccounts::replace);
        Bounds.beyond("replace of none", Fields::least, 0, -1, StileAccounts::replace);
    }

    // Promise 10, "what it was worn by": 0, one less than L, L, 999; "REPLACED it is worn by nothing"
    private static void whatItWasWornBy() {
        int[] sanded = {0, 1, 2, 3, 199, 200};
        int[] due = {0, 5, 10, 15, 995, 999};
        for (int i = 0; i < sanded.length; i++) {
            StileAccounts x = Fields.laid("f2;s0,0,1;s0,0,1;w0,0,1;l10;");
            Fields.sands(x, 0, sanded[i]);
            Due.is("broken ahead of it", x.stile(0, 4), due[i] >= 10 ? 1 : 0);
            Due.is("replace", x.replace(0), due[i]);
            Due.is("worn then", x.stile(0, 3), 0);
            Due.is("broken then", x.stile(0, 4), 0);
            Due.is("tread then", x.tread(0, 0), 1);
            Due.is("replace again", x.replace(0), 1);
            Due.is("replace the other", x.replace(1), 0);
        }
    }

    // "and all WALKERS' ACCOUNTS of it are 0": the first one's to the last one's, of the first and of the last STILE
    private static void allAccountsOfIt() {
        int[] replaced = {0, 8};
        for (int r : replaced) {
            StileAccounts x = Fields.laid("f2;" + "s2,0,1;".repeat(9) + "w0,0,1;w0,1,1;w0,0,1;w0,1,1;");
            for (int w = 0; w < 4; w++) {
                Fields.treads(x, w, 0, 1, 8, 7);
            }
            int[] due = {1, -1, 0, 0, 0, 0, 0, -1, 1};
            x.replace(r);
            for (int w = 0; w < 4; w++) {
                for (int s = 0; s < 9; s++) {
                    int sign = w % 2 == 0 ? 1 : -1;
                    Due.is("account of " + w + " and " + s, x.account(w, s), s == r ? 1000 : 1000 + sign * due[s]);
                }
            }
        }
    }

    // "REPLACED it is worn by nothing ..": no CREDIT, no FIELD, no TREAD, no latest TREAD is another; it can be UNDONE
    private static void replacedAsNothingWas() {
        StileAccounts x = Fields.laid("f2;s0,0,1;s0,0,1;w1,0,3;");
        Fields.treads(x, 0, 0);
        x.replace(0);
        x.replace(1);
        Due.is("credit", x.walker(0, 3), 2);
        Due.is("field", x.walker(0, 1), 1);
        Due.is("latest", x.walker(0, 5), 0);
        Due.is("treads", x.count(3), 1);
        Due.is("what was not worn is replaced too", x.count(8), 3);
        Due.is("undo of it", x.undo(), 2);
        Due.is("worn still by nothing", x.stile(0, 3), 0);
        Due.is("undo of the other", x.undo(), 1);
        Due.is("worn again", x.stile(0, 3), 3);
        Due.is("account again", x.account(0, 0), 1001);
    }

    // ---- promise 11

    private static void sanding() {
        sandedSuchAsThereAre();
        wornBy5More();
        heldAt999();
        sandedThough();
    }

    // "BAD: a number is none that is told (.. STILES ..: such as there are)"
    private static void sandedSuchAsThereAre() {
        Bounds.told("sand", Fields::lived, 0, 2, StileAccounts::sand);
        Bounds.told("sand of nine", Fields::most, 0, 8, StileAccounts::sand);
        Bounds.beyond("sand of none", Fields::least, 0, -1, StileAccounts::sand);
    }

    // "SANDED it is worn by 5 more", of each KIND, from nothing on, BROKEN too; no ACCOUNT, no CREDIT is another
    private static void wornBy5More() {
        StileAccounts x = Fields.laid(ALL_KINDS + "w2,0,9;l10;");
        for (int s = 0; s < 4; s++) {
            for (int i = 1; i <= 4; i++) {
                Due.is("sand", x.sand(s), 5 * i);
                Due.is("worn", x.stile(s, 3), 5 * i);
            }
            Due.is("account", x.account(0, s), 1000);
        }
        Due.is("level", x.walker(0, 4), 1);
        Due.is("credit", x.walker(0, 3), 0);
        Due.is("treads", x.count(3), 0);
    }

    // "SANDED it is worn by 5 more (999 at most)": held from 994, 995, 996, 997, 998 and 999 on
    private static void heldAt999() {
        int[] heavy = {4, 0, 1, 2, 3};
        for (int i = 0; i < heavy.length; i++) {
            StileAccounts x = Fields.laid("f2;s0,0,1;w0,0," + Math.max(heavy[i], 1) + ";");
            int sandings = heavy[i] == 4 ? 198 : 199;
            if (heavy[i] > 0) {
                Fields.treads(x, 0, 0);
            }
            Fields.sands(x, 0, sandings);
            Due.is("worn ahead of it", x.stile(0, 3), 994 + i);
            Due.is("sand", x.sand(0), 999);
            Due.is("worn by the most", x.stile(0, 3), 999);
            Due.is("sand once more", x.sand(0), 999);
            Due.is("worn by the most still", x.count(5), 999);
            Due.is("undo of the second", x.undo(), 7);
            Due.is("worn by the most still", x.stile(0, 3), 999);
            Due.is("undo of the first", x.undo(), 6);
            Due.is("worn as ahead of it", x.stile(0, 3), 994 + i);
        }
    }

    // "UNDONE are the latest .. SANDING": also what is held at 999 can be UNDONE
    private static void sandedThough() {
        StileAccounts x = Fields.laid("f2;s0,0,1;w0,0,1;");
        Fields.sands(x, 0, 208);
        Due.is("worn", x.stile(0, 3), 999);
        Due.is("can be undone", x.count(8), 8);
        for (int left = 7; left >= 0; left--) {
            Due.is("undo", x.undo(), left);
            Due.is("worn", x.stile(0, 3), 999);
        }
        Due.is("the 9th", x.undo(), NO);
    }

    // ---- promise 12

    private static void undoing() {
        nothingToUndo();
        howManyMoreCanBe();
        theLast8CanBe();
        ofEachOfThemAll();
        ofTheLastOfNineAndFour();
        whatIsRefusedIsNotUndone();
        undoOfWhatBroke();
        neitherSeenNorKeptNorTextIsUndone();
    }

    // Promise 12, "NO": not as things stand, if nothing can be UNDONE
    private static void nothingToUndo() {
        Bounds.refused("undo at first", StileAccounts::new, NO, StileAccounts::undo);
        Bounds.refused("undo of what is laid", Fields::most, NO, StileAccounts::undo);
        Bounds.refused("undo behind all that could be", BoundsOfTreadsTest::undoneToTheLast, NO, StileAccounts::undo);
        Bounds.refused("undo behind back", BoundsOfTreadsTest::gotBack, NO, StileAccounts::undo);
    }

    private static StileAccounts undoneToTheLast() {
        StileAccounts x = Fields.lived();
        for (int i = 0; i < 8; i++) {
            x.undo();
        }
        return x;
    }

    private static StileAccounts gotBack() {
        StileAccounts x = Fields.lived();
        x.back();
        return x;
    }

    // Promise 12, "how many more can be": from 0 to 7
    private static void howManyMoreCanBe() {
        for (int n = 1; n <= 12; n++) {
            StileAccounts x = Fields.laid("f2;s0,0,1;w0,0,1;");
            Fields.sands(x, 0, n);
            int can = Math.min(n, 8);
            Due.is("can be undone of " + n, x.count(8), can);
            for (int left = can - 1; left >= 0; left--) {
                Due.is("undo of " + n, x.undo(), left);
                Due.is("worn", x.stile(0, 3), 5 * (n - can + left));
                Due.is("can be undone still", x.count(8), left);
            }
            Due.is("undo of one more than " + can, x.undo(), NO);
        }
    }

    // "(the last 8 can be)": the 9th is not, nor is any one ahead of it; what is done anew can be
    private static void theLast8CanBe() {
        StileAccounts x = Fields.laid("f2;s3,0,1;s0,0,1;w0,0,1;");
        Fields.treads(x, 0, 0);
        Fields.sands(x, 1, 8);
        for (int i = 0; i < 8; i++) {
            x.undo();
        }
        Due.is("the tread ahead of the last 8", x.count(3), 1);
        Due.is("undo of it", x.undo(), NO);
        Due.is("it stays", x.walker(0, 1), 1);
        StileAccounts anew = Fields.laid("f2;s3,0,1;s0,0,1;w0,0,1;");
        Fields.sands(anew, 1, 9);
        Due.is("undo", anew.undo(), 7);
        Due.is("undo", anew.undo(), 6);
        Fields.treads(anew, 0, 0, 0, 0);
        Due.is("can be undone", anew.count(8), 8);
        for (int left = 7; left >= 0; left--) {
            Due.is("undo of all", anew.undo(), left);
        }
        Due.is("worn", anew.stile(1, 3), 10);
        Due.is("one more", anew.undo(), NO);
    }

    // "UNDONE are the latest TREADS, REPLACING, SANDING": each all that it changed
    private static void ofEachOfThemAll() {
        StileAccounts x = Fields.laid("f2;s0,0,1;s0,0,1;w0,0,2;w1,1,3;w2,0,4;w0,1,5;l99;");
        for (int w = 0; w < 4; w++) {
            Fields.treads(x, w, 1, 0, 1);
        }
        String[] due = new String[8];
        for (int i = 0; i < 8; i++) {
            due[i] = Fields.glance(x);
            if (i % 3 == 0) {
                x.replace(i % 2 == 0 ? 1 : 0);
            } else if (i % 3 == 1) {
                Fields.treads(x, 3 - i % 4, 1);
            } else {
                x.sand(1);
            }
        }
        for (int i = 7; i >= 0; i--) {
            Due.is("undo", x.undo(), i);
            Due.holds("as ahead of the " + i + "th", Fields.glance(x).equals(due[i]));
        }
    }

    // "UNDONE are the latest ..": also of the ninth STILE and of the fourth WALKER
    private static void ofTheLastOfNineAndFour() {
        StileAccounts x = Fields.laid("f8;" + "s2,0,1;".repeat(8) + "s1,7,6;w0,7,1;w0,7,1;w0,7,1;w1,7,9;l99;");
        Fields.treads(x, 3, 8);
        x.sand(8);
        x.replace(8);
        Due.is("undo of the replacing", x.undo(), 2);
        Due.is("account", x.account(3, 8), 1001);
        Due.is("worn", x.stile(8, 3), 23);
        Due.is("undo of the sanding", x.undo(), 1);
        Due.is("worn", x.stile(8, 3), 18);
        Due.is("undo of the tread", x.undo(), 0);
        Due.is("worn", x.stile(8, 3), 0);
        Due.is("account", x.account(3, 8), 1000);
        Due.is("field", x.walker(3, 1), 7);
        Due.is("credit", x.walker(3, 3), 0);
        Due.is("latest", x.walker(3, 5), NONE);
        Due.is("level", x.walker(3, 4), 1);
    }

    // "nothing changes then": what is refused, and what only tells, is none of what can be UNDONE
    private static void whatIsRefusedIsNotUndone() {
        StileAccounts x = Fields.laid("f3;s0,0,1;s0,1,2;s0,0,1;w0,0,9;l10;");
        x.tread(0, 3);
        x.tread(1, 0);
        x.tread(0, 1);
        x.replace(3);
        x.replace(-1);
        x.sand(3);
        x.sand(-1);
        x.undo();
        x.back();
        x.year(0, 60, 0);
        x.drunk(0, 0, 8, 5, 0);
        x.see(0, 1);
        x.keep();
        x.write('x');
        x.lay();
        Due.is("nothing can be undone", x.count(8), 0);
        Due.is("undo", x.undo(), NO);
        Fields.sands(x, 0, 2);
        Due.is("over what is broken", x.tread(0, 0), NO);
        Due.is("undo of the sanding", x.undo(), 1);
        Due.is("worn", x.stile(0, 3), 5);
    }

    // "A STILE that is worn by L or more is BROKEN": no more so, if what broke it is UNDONE, and again BROKEN
    private static void undoOfWhatBroke() {
        StileAccounts x = Fields.laid("f2;s0,0,1;w0,0,5;l10;");
        Fields.treads(x, 0, 0, 0);
        Due.is("broken", x.count(4), 1);
        Due.is("tread", x.tread(0, 0), NO);
        Due.is("undo", x.undo(), 1);
        Due.is("not broken", x.count(4), 0);
        Due.is("tread", x.tread(0, 0), 0);
        Due.is("broken again", x.count(4), 1);
        x.replace(0);
        Due.is("replaced", x.count(4), 0);
        x.undo();
        Due.is("broken as ahead of it", x.stile(0, 4), 1);
        Due.is("credit", x.walker(0, 3), 2);
        Due.is("level", x.walker(0, 4), 1);
    }

    // "UNDONE are the latest TREADS, REPLACING, SANDING": nothing that is SEEN or KEPT, no letter
    private static void neitherSeenNorKeptNorTextIsUndone() {
        StileAccounts x = Fields.laid("f2;s0,0,1;w0,0,5;l10;");
        x.sand(0);
        x.see(0, 5);
        x.keep();
        x.write('x');
        Due.is("can be undone", x.count(8), 1);
        Due.is("undo", x.undo(), 0);
        Due.is("seen", x.count(7), 1);
        Due.is("kept", x.count(9), 1);
        Due.is("letters", x.count(10), 22);
        Due.is("undo again", x.undo(), NO);
        Due.is("back to what is undone", x.back(), 0);
        Due.is("worn", x.stile(0, 3), 5);
    }
}
