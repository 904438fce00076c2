/**
 * Each bound that promises 19 to 22 name, and the terms behind them: SEEN, WHOSE, OFTEN.
 * The remark ahead of each test is the sentence that it holds.
 */
public final class BoundsOfWhatWasSeenTest {
    private static final int BAD = StileAccounts.BAD;
    private static final int FULL = StileAccounts.FULL;
    private static final int NONE = StileAccounts.NONE;
    private static final String ALL_KINDS = "f2;s0,0,1;s1,0,1;s2,0,1;s3,0,1;w0,0,3;w1,1,1;w2,0,3;w3,1,9;";

    public static void main(String[] args) {
        seeing();
        forgetting();
        whoseWear();
        howOften();
        Due.end();
    }

    // ---- promise 19

    private static void seeing() {
        seenSuchAsThereAre();
        seenFrom0To999();
        sixAtMost();
        badAheadOfFull();
        seenOnlyIsSeen();
    }

    // "BAD: a number is none that is told (.. STILES ..: such as there are)"
    private static void seenSuchAsThereAre() {
        Bounds.told("see of stile", Fields::lived, 0, 2, (x, s) -> x.see(s, 0));
        Bounds.told("see of nine", Fields::most, 0, 8, (x, s) -> x.see(s, 999));
        Bounds.beyond("see of none", Fields::least, 0, -1, (x, s) -> x.see(s, 0));
        Bounds.refused("both are none", Fields::lived, BAD, x -> x.see(3, 1000));
    }

    // "by v (0 to 999)"
    private static void seenFrom0To999() {
        Bounds.told("see", Fields::lived, 0, 999, (x, v) -> x.see(0, v));
        Bounds.told("see of a stone", Fields::lived, 0, 999, (x, v) -> x.see(2, v));
    }

    // "SEEN (6 at most)"; promise 19, "how many .. FULL": the 6th, the 7th, of one STILE and of several, alike or not
    private static void sixAtMost() {
        StileAccounts x = Fields.laid(ALL_KINDS);
        for (int i = 1; i <= 6; i++) {
            Due.is("see the " + i + "th", x.see(i % 4, i * 100), i);
            Due.is("seen", x.count(7), i);
        }
        Due.is("see the 7th", x.see(0, 0), FULL);
        Due.is("seen still", x.count(7), 6);
        StileAccounts alike = Fields.laid(ALL_KINDS);
        for (int i = 1; i <= 6; i++) {
            Due.is("see the same", alike.see(0, 3), i);
        }
        Due.is("see the same a 7th time", alike.see(0, 3), FULL);
        Bounds.refused("the 7th", Fields::full, FULL, y -> y.see(0, 0));
        Bounds.refused("the 7th, the most", Fields::full, FULL, y -> y.see(0, 999));
        Due.is("forget", x.forget(), 6);
        Due.is("see again", x.see(0, 0), 1);
    }

    // "BAD .. FULL. Of several the first in this order, whatever the order at a call"
    private static void badAheadOfFull() {
        Bounds.beyond("stile to six", Fields::full, 0, 0, (x, s) -> x.see(s, 0));
        Bounds.beyond("v to six", Fields::full, 0, 999, (x, v) -> x.see(0, v));
    }

    // "SEEN is that ..": nothing is worn by it, nothing can be UNDONE of it
    private static void seenOnlyIsSeen() {
        StileAccounts x = Fields.laid(ALL_KINDS);
        x.see(0, 999);
        Due.is("worn", x.count(5), 0);
        Due.is("broken", x.count(4), 0);
        Due.is("undone", x.count(8), 0);
        Due.is("kept", x.count(9), 0);
    }

    // ---- promise 20

    // "Nothing is SEEN: how many were": of none, one, six; nothing else changes
    private static void forgetting() {
        Due.is("forget at first", new StileAccounts().forget(), 0);
        for (int n = 0; n <= 6; n++) {
            StileAccounts x = Fields.laid(ALL_KINDS);
            String before = Fields.standing(x);
            for (int i = 0; i < n; i++) {
                x.see(0, 2);
            }
            Due.is("forget", x.forget(), n);
            Due.is("forget again", x.forget(), 0);
            Fields.same("forget what is seen", x, before);
        }
        StileAccounts full = Fields.full();
        Due.is("forget six", full.forget(), 6);
        Due.is("undone stays", full.count(8), 8);
        Due.is("kept stays", full.count(9), 2);
        Due.is("letters stay", full.count(10), 200);
        Due.is("see then", full.see(0, 1), 1);
        Bounds.onlyTells("forget of nothing", Fields::most, StileAccounts::forget);
    }

    // ---- promise 21

    private static void whoseWear() {
        whoseSuchAsThereAre();
        nothingSeenOfIt();
        someNumberOfTreads();
        justAsManyTimes();
        eachTimeThatWasSeenOfIt();
        whoWearsItByNothing();
        notHeldAt999();
        Bounds.onlyTells("whose", Fields::lived, x -> x.whose(0));
    }

    // "BAD: a number is none that is told (.. STILES ..: such as there are)"
    private static void whoseSuchAsThereAre() {
        Bounds.told("whose", Fields::lived, 0, 2, StileAccounts::whose);
        Bounds.told("whose of nine", Fields::most, 0, 8, StileAccounts::whose);
        Bounds.beyond("whose of none", Fields::least, 0, -1, StileAccounts::whose);
    }

    // "WALKERS (bits)": all, where nothing was SEEN of it: 1 of one, 15 of four
    private static void nothingSeenOfIt() {
        Due.is("of one", Fields.laid("s0,0,1;w0,0,1;").whose(0), 1);
        Due.is("of two", Fields.laid("s0,0,1;w0,0,1;w0,0,1;").whose(0), 3);
        Due.is("of four", Fields.laid(ALL_KINDS).whose(0), 15);
        StileAccounts x = Fields.laid(ALL_KINDS);
        x.see(0, 2);
        Due.is("seen of it", x.whose(0), 2);
        for (int s = 1; s < 4; s++) {
            Due.is("seen of another", x.whose(s), 15);
        }
        x.forget();
        Due.is("forgotten", x.whose(0), 15);
    }

    // "by some number of TREADS (0 or more"
    private static void someNumberOfTreads() {
        for (int s = 0; s < 4; s++) {
            StileAccounts x = Fields.laid(ALL_KINDS);
            x.see(s, 0);
            Due.is("by no tread", x.whose(s), 15);
        }
        StileAccounts one = Fields.laid(ALL_KINDS);
        one.see(0, 9);
        Due.is("by one tread of the last, by 9 of the second, by 3 of the first", one.whose(0), 1 + 2 + 8);
    }

    // "v is just as many times what he wears it by in one": not one more, not one less
    private static void justAsManyTimes() {
        int[] ofOak = {3, 1, 6, 9};
        for (int v = 0; v <= 40; v++) {
            StileAccounts x = Fields.laid(ALL_KINDS);
            x.see(0, v);
            x.see(1, v);
            int oak = 0;
            int elm = 0;
            for (int w = 0; w < 4; w++) {
                oak += v % ofOak[w] == 0 ? 1 << w : 0;
                elm += v % (2 * ofOak[w]) == 0 ? 1 << w : 0;
            }
            Due.is("oak by " + v, x.whose(0), oak);
            Due.is("elm by " + v, x.whose(1), elm);
        }
    }

    // "each time that was SEEN of it": the first and the last of six
    private static void eachTimeThatWasSeenOfIt() {
        for (int other = 0; other < 6; other++) {
            StileAccounts x = Fields.laid(ALL_KINDS);
            for (int i = 0; i < 6; i++) {
                x.see(0, i == other ? 3 : 18);
            }
            Due.is("3 as the " + other + "th", x.whose(0), 1 + 2);
        }
        StileAccounts none = Fields.laid("s0,0,1;w0,0,2;w0,0,3;");
        none.see(0, 2);
        Due.is("2", none.whose(0), 1);
        none.see(0, 3);
        Due.is("2 and 3", none.whose(0), 0);
    }

    // "v is just as many times what he wears it by in one": a STONE, a GATE by nothing, so 0 alone
    private static void whoWearsItByNothing() {
        for (int s = 2; s < 4; s++) {
            int[] some = {1, 3, 999};
            for (int v : some) {
                StileAccounts x = Fields.laid(ALL_KINDS);
                x.see(s, 0);
                Due.is("0", x.whose(s), 15);
                x.see(s, v);
                Due.is("0 and " + v, x.whose(s), 0);
            }
        }
    }

    // "that it is worn by 999 at most does not matter here": 999 is no more than 999; nor does L, nor what is worn
    private static void notHeldAt999() {
        StileAccounts x = Fields.laid("f2;s0,0,1;w0,0,9;w0,0,7;w0,0,2;w0,0,3;l10;");
        x.see(0, 999);
        Due.is("999 by 9 and 3, not by 7 and 2", x.whose(0), 1 + 8);
        Fields.sands(x, 0, 200);
        Due.is("999 of what is worn by the most", x.whose(0), 1 + 8);
        StileAccounts less = Fields.laid("f2;s0,0,1;w0,0,9;w0,0,7;w0,0,2;w0,0,3;l10;");
        less.see(0, 998);
        Due.is("998 by 2 alone", less.whose(0), 4);
    }

    // ---- promise 22

    private static void howOften() {
        oftenSuchAsThereAre();
        oftenFrom0To999();
        neverOften();
        asOftenAsItIs();
        Bounds.onlyTells("often", Fields::lived, x -> x.often(0, 1, 12));
    }

    // "BAD: a number is none that is told (.. STILES, WALKERS: such as there are)"; BAD ahead of NONE
    private static void oftenSuchAsThereAre() {
        Bounds.told("often of walker", Fields::lived, 0, 1, (x, w) -> x.often(w, 0, 0));
        Bounds.told("often of stile", Fields::lived, 0, 2, (x, s) -> x.often(0, s, 0));
        Bounds.told("often of four", Fields::most, 0, 3, (x, w) -> x.often(w, 8, 1));
        Bounds.told("often of nine", Fields::most, 0, 8, (x, s) -> x.often(3, s, 999));
        Bounds.beyond("often of no stile", Fields::least, 0, -1, (x, s) -> x.often(0, s, 0));
        Bounds.refused("no such walker, a stone", Fields::lived, BAD, x -> x.often(2, 2, 1));
        Bounds.refused("all are none", Fields::lived, BAD, x -> x.often(2, 3, 1000));
    }

    // "v (0 to 999)"
    private static void oftenFrom0To999() {
        Bounds.told("often", Fields::lived, 0, 999, (x, v) -> x.often(0, 0, v));
        Bounds.told("often over a stone", Fields::lived, 0, 999, (x, v) -> x.often(0, 2, v));
        StileAccounts x = Fields.laid(ALL_KINDS);
        Due.is("0 by 1", x.often(1, 0, 0), 0);
        Due.is("1 by 1", x.often(1, 0, 1), 1);
        Due.is("998 by 1", x.often(1, 0, 998), 998);
        Due.is("999 by 1", x.often(1, 0, 999), 999);
        Due.is("999 by 9", x.often(3, 0, 999), 111);
    }

    // "none": where v is not just as many times it, where he wears it by nothing; "the fewest": 0 for 0
    private static void neverOften() {
        StileAccounts x = Fields.laid(ALL_KINDS);
        for (int w = 0; w < 4; w++) {
            for (int s = 0; s < 4; s++) {
                Due.is("0", x.often(w, s, 0), 0);
            }
            for (int s = 2; s < 4; s++) {
                Due.is("1 by nothing", x.often(w, s, 1), NONE);
                Due.is("999 by nothing", x.often(w, s, 999), NONE);
            }
        }
        Bounds.refused("1 by nothing", Fields::lived, NONE, y -> y.often(0, 2, 1));
        Due.is("1 by 3", x.often(0, 0, 1), NONE);
        Due.is("2 by 3", x.often(0, 0, 2), NONE);
        Due.is("3 by 3", x.often(0, 0, 3), 1);
        Due.is("4 by 3", x.often(0, 0, 4), NONE);
        Due.is("998 by 9", x.often(3, 0, 998), NONE);
        Due.is("3 by 6", x.often(2, 0, 3), NONE);
        Due.is("6 by 12", x.often(2, 1, 6), NONE);
        Due.is("12 by 12", x.often(2, 1, 12), 1);
    }

    // "(.. does not matter here, nor below)": neither that it is worn by 999 at most, nor that it is BROKEN
    private static void asOftenAsItIs() {
        StileAccounts x = Fields.laid("f2;s0,0,1;w0,0,7;w0,0,9;l10;");
        Due.is("999 by 7", x.often(0, 0, 999), NONE);
        Due.is("994 by 7", x.often(0, 0, 994), 142);
        Fields.sands(x, 0, 200);
        Due.is("999 by 7 of what is worn by the most", x.often(0, 0, 999), NONE);
        Due.is("999 by 9 of what is worn by the most", x.often(1, 0, 999), 111);
        Due.is("0 of what is worn by the most", x.often(0, 0, 0), 0);
    }
}
