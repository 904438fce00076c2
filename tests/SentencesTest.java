/**
 * Sentences of the document that hold, and of which no other test of the project noticed when the class was changed so
 * that they did not: found by reading it once more, from its first line to its last.
 * The remark ahead of each test is the sentence that it holds.
 */
public final class SentencesTest {
    private static final int NONE = StileAccounts.NONE;
    private static final int BAD = StileAccounts.BAD;
    private static final int NO = StileAccounts.NO;
    private static final int FULL = StileAccounts.FULL;

    public static void main(String[] args) {
        fewestOfAllThatJoin();
        fewestTogether();
        lastsWhereverHeIs();
        lastsWhateverHeDid();
        richestOfNobody();
        whoseWhereverTheyAre();
        oftenWhateverItIsWornBy();
        drunkOfAnyKind();
        drunkFromWhereHeIs();
        badAheadOfNone();
        boundsByThemselves();
        readmeAnswers();
        Due.end();
    }

    // "EVEN of a WALKER: the fewest TREADS": by one STILE over and back, though two lower ones come there as well
    private static void fewestOfAllThatJoin() {
        StileAccounts x = Fields.laid("f4;s2,0,1;s2,1,2;s2,0,2;s2,2,3;s2,2,3;w0,0,1;");
        Fields.treads(x, 0, 2, 3, 4, 2);
        Due.is("over and back, and round", x.even(0), 4);
        StileAccounts y = Fields.laid("f5;s2,0,1;s2,1,2;s2,2,3;s2,3,4;s2,3,4;s2,0,2;s2,0,3;w1,0,1;");
        Fields.treads(y, 0, 6, 3, 4, 6);
        Due.is("over one, not over two or three", y.even(0), 4);
        y.sand(6);
        y.sand(6);
        Due.is("as far by what is worn", y.even(0), 4);
    }

    // "EVEN of a WALKER: the fewest TREADS": to two rounds, at 4 and at 5, by three STILES that part at 3; there are
    // two lower ones to 4 by 1, by which there would be four
    private static void fewestTogether() {
        StileAccounts x = Fields.laid("f8;s2,0,1;s2,1,4;s2,0,3;s2,3,4;s2,3,5;s2,4,6;s2,4,6;s2,5,7;s2,5,7;w0,0,1;");
        Fields.treads(x, 0, 2, 3, 5, 6, 3, 4, 7, 8, 4, 2);
        Due.is("three over and back, two rounds", x.even(0), 10);
        Fields.treads(x, 0, 0, 1);
        Due.is("at 4, by 1: to 5 by two over and back", x.even(0), 10);
    }

    // "LASTS of a STILE for a WALKER": also if he is at another FIELD, or is none that can come there
    private static void lastsWhereverHeIs() {
        StileAccounts x = Fields.laid("f5;s0,0,1;s1,2,1;w0,0,3;w1,1,3;w0,2,3;w3,4,3;l30;");
        for (int w = 0; w < 4; w++) {
            Due.is("oak, for " + w, x.lasts(0, w), 10);
            Due.is("elm, for " + w, x.lasts(1, w), 5);
        }
        Fields.treads(x, 0, 0, 1);
        for (int w = 0; w < 4; w++) {
            Due.is("oak worn by 3, for " + w, x.lasts(0, w), 9);
            Due.is("elm worn by 6, for " + w, x.lasts(1, w), 4);
        }
    }

    // "LASTS": "behind how many TREADS of his over it, it is BROKEN": whoever wore it, and just then
    private static void lastsWhateverHeDid() {
        StileAccounts x = Fields.laid("f2;s0,0,1;w0,0,4;w2,1,1;l31;");
        Fields.treads(x, 1, 0, 0);
        Fields.treads(x, 0, 0);
        int left = x.lasts(0, 0);
        Due.is("worn by 8 of 31, by 4", left, 6);
        for (int i = 1; i < left; i++) {
            Fields.treads(x, 0, 0);
            Due.is("left behind " + i, x.lasts(0, 0), left - i);
            Due.is("not broken behind " + i, x.stile(0, 4), 0);
        }
        Fields.treads(x, 0, 0);
        Due.is("broken then", x.stile(0, 4), 1);
        Due.is("none left", x.lasts(0, 0), 0);
    }

    // "RICHEST: the WALKER with most CREDIT, of several the lowest": whatever his KIND is, if nobody has any
    private static void richestOfNobody() {
        for (int kind = 0; kind <= 3; kind++) {
            StileAccounts x = Fields.laid("f2;s2,0,1;s3,0,1;w" + kind + ",0,1;w0,0,1;w1,0,1;w2,0,1;");
            Due.is("kind " + kind + ", first", x.richest(), 0);
            Fields.treads(x, 1, 1);
            Fields.treads(x, 2, 1);
            Due.is("kind " + kind + ", over a gate", x.richest(), 0);
            Fields.treads(x, 3, 0);
            Due.is("kind " + kind + ", another has 1", x.richest(), 3);
        }
    }

    // "WHOSE of a STILE: WALKERS (bits) that can have worn it so": as what he wears it by is, wherever he is, whatever
    // he or others went over, whatever it is worn by
    private static void whoseWhereverTheyAre() {
        StileAccounts x = Fields.laid("f4;s0,0,1;s0,1,2;s0,2,3;w0,0,1;w1,0,2;w2,3,3;w3,3,4;l10;");
        x.see(0, 6);
        x.see(2, 4);
        Due.is("6 of the first", x.whose(0), 1 + 2 + 4);
        Due.is("4 of the last", x.whose(2), 1 + 2 + 8);
        Fields.treads(x, 0, 0, 1, 2);
        Fields.treads(x, 2, 2);
        Fields.sands(x, 0, 2);
        Due.is("6 of the first, broken", x.whose(0), 1 + 2 + 4);
        Due.is("4 of the last, worn by 7", x.whose(2), 1 + 2 + 8);
        x.replace(0);
        x.replace(2);
        Due.is("6 of the first, replaced", x.whose(0), 1 + 2 + 4);
        Due.is("4 of the last, replaced", x.whose(2), 1 + 2 + 8);
    }

    // "OFTEN of a WALKER, a STILE, v (0 to 999): by how many TREADS he wears it by v": not by v more than it is worn
    // by now, beyond L too, wherever he is
    private static void oftenWhateverItIsWornBy() {
        StileAccounts x = Fields.laid("f3;s1,0,1;w0,0,3;w2,2,3;l10;");
        for (int worn = 0; worn <= 10; worn += 5) {
            Due.is("6 by 6, worn by " + worn, x.often(0, 0, 6), 1);
            Due.is("12 by 6, worn by " + worn, x.often(0, 0, 12), 2);
            Due.is("12 by 12, worn by " + worn, x.often(1, 0, 12), 1);
            Due.is("996 by 12, worn by " + worn, x.often(1, 0, 996), 83);
            Due.is("0, worn by " + worn, x.often(1, 0, 0), 0);
            Due.is("5 by 6, worn by " + worn, x.often(0, 0, 5), NONE);
            x.sand(0);
        }
    }

    // "DRUNK: .. a WALKER goes over the lowest STILE at his FIELD .. by x (0 to 10) of ten, else over the highest":
    // whatever his KIND is, how heavy he is, of what KIND the STILES are
    private static void drunkOfAnyKind() {
        String walkers = "w0,0,1;w1,0,9;w2,0,5;w3,0,2;";
        for (int kind = 0; kind <= 3; kind++) {
            StileAccounts x = Fields.laid("f3;s" + kind + ",0,1;s2,0,2;s" + (3 - kind) + ",2,0;" + walkers + "l10;");
            for (int w = 0; w < 4; w++) {
                Due.is("lowest, " + w, x.drunk(w, 1, 1, 2, 0), 1);
                Due.is("lowest, " + w + ", of", x.drunk(w, 1, 1, 2, 1), 5);
                Due.is("highest, " + w, x.drunk(w, 2, 1, 2, 0), 4);
                Due.is("highest, " + w + ", of", x.drunk(w, 2, 1, 2, 1), 5);
            }
        }
    }

    // "in each of n (0 to 8) TREADS from now on": from where he is now, not where he was, or is behind it
    private static void drunkFromWhereHeIs() {
        StileAccounts x = Fields.laid("f4;s2,0,1;s2,1,2;s2,2,3;w0,0,1;");
        for (int f = 1; f <= 3; f++) {
            Fields.treads(x, 0, f - 1);
            Due.is("by no tread", x.drunk(0, f, 0, 5, 0), 1);
            Due.is("not where he was", x.drunk(0, f - 1, 0, 5, 0), 0);
            Due.is("back by the lowest", x.drunk(0, f - 1, 1, 10, 0), 1);
            Due.is("back and on", x.drunk(0, 1, f % 2 == 0 ? 7 : 8, 10, 0), 1);
            Due.is("he is there still", x.walker(0, 1), f);
        }
    }

    // "Of several the first in this order, whatever the order at a call": BAD ahead of NONE, of 0 as an answer as well
    private static void badAheadOfNone() {
        StileAccounts x = Fields.laid("f3;s2,0,1;s3,0,1;s0,0,1;w0,0,2;l10;");
        Fields.sands(x, 2, 2);
        Due.is("often of a stone", x.often(0, 0, 1000), BAD);
        Due.is("often of a gate", x.often(0, 1, -1), BAD);
        Due.is("often of an odd number", x.often(0, 2, 1001), BAD);
        Due.is("often of nothing, of nobody", x.often(1, 2, 0), BAD);
        Due.is("lasts of a stone, for nobody", x.lasts(0, 1), BAD);
        Due.is("lasts of a broken one, for nobody", x.lasts(2, -1), BAD);
        Due.is("way to where there is none, of what", x.way(0, 2, 2), BAD);
        Due.is("way to where he is, of what", x.way(0, 0, -1), BAD);
        Due.is("way of nobody, to where there is none", x.way(1, 2, 0), BAD);
        StileAccounts none = Fields.least();
        Due.is("new of what, where there is none", none.fresh(2), BAD);
        Due.is("new, where there is none", none.fresh(1), NONE);
    }

    // "2 at most", "6 at most", "the last 8 can be": each by itself, however many there are of the others
    private static void boundsByThemselves() {
        for (int undone = 0; undone <= 8; undone++) {
            for (int seen = 0; seen <= 6; seen++) {
                StileAccounts x = new StileAccounts();
                Fields.sands(x, 0, undone);
                for (int i = 1; i <= seen; i++) {
                    Due.is("seen, " + undone + " undone", x.see(0, 3), i);
                }
                Due.is("kept, " + undone + " undone, " + seen + " seen", x.keep(), 1);
                Due.is("kept, " + undone + " undone, " + seen + " seen", x.keep(), 2);
                Due.is("not kept, " + undone + " undone, " + seen + " seen", x.keep(), FULL);
                Due.is("seen, " + undone + " undone, 2 kept", x.see(0, 3), seen < 6 ? seen + 1 : FULL);
                for (int left = undone - 1; left >= 0; left--) {
                    Due.is("undone, " + seen + " seen, 2 kept", x.undo(), left);
                }
                Due.is("not undone, " + seen + " seen, 2 kept", x.undo(), NO);
            }
        }
    }

    // README.md, "Use"
    private static void readmeAnswers() {
        StileAccounts x = new StileAccounts();
        Due.is("tread", x.tread(0, 0), 1);
        Due.is("worn by", x.stile(0, 3), 3);
        Due.is("account", x.account(0, 0), 1001);
        Due.is("even", x.even(0), 1);
        Due.is("not at his field", x.tread(0, 3), NO);
        Due.is("no walker 9", x.tread(9, 0), BAD);
        Due.is("undo", x.undo(), 0);
        x.wipe();
        Fields.write(x, "f3;s0,0,1;s1,1,2;w0,0,5;l20;");
        Due.is("no fault", x.fault(), NONE);
        Due.is("laid", x.lay(), 3);
    }
}
