import java.math.BigInteger;
import java.util.ArrayList;
import java.util.List;

/** Each promise of the document: ordinary calls, the edges that it names, wrong calls. */
public final class PromisesTest {
    private static final int BAD = StileAccounts.BAD;
    private static final int NO = StileAccounts.NO;
    private static final int FULL = StileAccounts.FULL;
    private static final int NONE = StileAccounts.NONE;
    private static final int MIN = Integer.MIN_VALUE;
    private static final int MAX = Integer.MAX_VALUE;

    private static final String NINE_STILES =
        "f8;s0,0,1;s1,1,2;s2,2,3;s3,3,4;s0,4,5;s0,5,6;s0,6,7;s0,7,0;s0,0,2;";
    private static final String FOUR_WALKERS = "w0,0,1;w1,1,2;w2,2,3;w3,3,9;";

    public static void main(String[] args) {
        promise1NewObject();
        promise2Write();
        promise3Wipe();
        promise4FaultOfFields();
        promise4FaultOfStiles();
        promise4FaultOfWalkers();
        promise4FaultOfLimits();
        promise4FaultOfForm();
        promise5Lay();
        promise5LayRefused();
        promise6Stile();
        promise7Walker();
        promise8Account();
        promise9Tread();
        promise9TreadRefused();
        promise9Wear();
        promise10Replace();
        promise11Sand();
        promise12Undo();
        promise12UndoRestoresAll();
        promise12UndoOfTheLastOnes();
        promise13Way();
        promise14Even();
        promise14EvenByWhatWasReplaced();
        promise15Measure();
        promise16Fresh();
        promise17Lasts();
        promise18Richest();
        promise19See();
        promise20Forget();
        promise21Whose();
        promise22Often();
        promise23Drunk();
        promise24Year();
        promise25Keep();
        promise26Back();
        promise27Count();
        promisesOfTheMost();
        Due.end();
    }

    private static void promise1NewObject() {
        Due.is("BAD", BAD, -1);
        Due.is("NO", NO, -2);
        Due.is("FULL", FULL, -3);
        Due.is("NONE", NONE, -4);
        StileAccounts x = new StileAccounts();
        StileAccounts y = Fields.laid(Fields.FIRST);
        Due.is("letters of a new object", x.count(10), 0);
        Due.is("fault of a new object", x.fault(), NONE);
        Due.is("letters wiped", y.wipe(), Fields.FIRST.length());
        Fields.same("a new object or the first text laid", x, Fields.standing(y));
        Due.is("new: undo", x.undo(), NO);
        Due.is("new: back", x.back(), NO);
        Due.is("new: forget", x.forget(), 0);
        Due.is("new: lay", x.lay(), NO);
        int[][] stiles = {{0, 0, 1}, {1, 1, 2}, {0, 2, 3}, {2, 3, 0}, {1, 1, 4}, {3, 4, 5}, {0, 5, 2}};
        for (int s = 0; s < 7; s++) {
            for (int what = 0; what < 3; what++) {
                Due.is("new: stile(" + s + ", " + what + ")", x.stile(s, what), stiles[s][what]);
            }
            Due.is("new: worn " + s, x.stile(s, 3), 0);
        }
        int[][] walkers = {{0, 0, 3}, {1, 2, 4}, {2, 4, 2}, {3, 5, 5}};
        for (int w = 0; w < 4; w++) {
            for (int what = 0; what < 3; what++) {
                Due.is("new: walker(" + w + ", " + what + ")", x.walker(w, what), walkers[w][what]);
            }
        }
        Fields.sands(x, 0, 5);
        Due.is("worn by 25 of 30", x.stile(0, 4), 0);
        Fields.sands(x, 0, 1);
        Due.is("worn by 30 of 30", x.stile(0, 4), 1);
    }

    private static void promise2Write() {
        StileAccounts x = new StileAccounts();
        Due.is("write(31)", x.write(31), BAD);
        Due.is("write(127)", x.write(127), BAD);
        Due.is("write(-1)", x.write(-1), BAD);
        Due.is("write(MIN)", x.write(MIN), BAD);
        Due.is("write(MAX)", x.write(MAX), BAD);
        Due.is("write(f + 65536)", x.write('f' + 65536), BAD);
        Due.is("nothing is written", x.count(10), 0);
        Due.is("write(32)", x.write(32), 1);
        Due.is("write(126)", x.write(126), 2);
        for (int i = 3; i <= 200; i++) {
            Due.is("letter " + i, x.write('f'), i);
        }
        Due.is("letter 201", x.write('f'), FULL);
        Due.is("letter 201, BAD ahead of FULL", x.write(31), BAD);
        Due.is("length", x.count(10), 200);
        Due.is("wipe", x.wipe(), 200);
        Due.is("write anew", x.write('f'), 1);
    }

    private static void promise3Wipe() {
        StileAccounts x = new StileAccounts();
        Due.is("wipe of no letter", x.wipe(), 0);
        Fields.write(x, "f3;w0,0,1;");
        Fields.treads(x, 0, 0);
        x.see(0, 3);
        x.keep();
        Due.is("fault", x.fault(), NONE);
        Due.is("wipe", x.wipe(), 10);
        Due.is("wipe again", x.wipe(), 0);
        Due.is("lay of nothing", x.lay(), NO);
        Due.is("fields stay", x.count(0), 6);
        Due.is("treads stay", x.count(3), 1);
        Due.is("seen stay", x.count(7), 1);
        Due.is("undone stay", x.count(8), 1);
        Due.is("kept stay", x.count(9), 1);
        Fields.write(x, "w0,4,9;");
        Due.is("another text", x.lay(), 5);
    }

    private static void faultIs(String text, int want) {
        Due.is("fault of " + text, Fields.written(text).fault(), want);
    }

    private static void promise4FaultOfFields() {
        faultIs("", NONE);
        faultIs("f1;", NONE);
        faultIs("f8;", NONE);
        faultIs("f08;", NONE);
        faultIs("f0;", 0);
        faultIs("f9;", 0);
        faultIs("f99;", 0);
        faultIs("f008;", 0);
        faultIs("f3,3;", 0);
        faultIs("f3;f4;f5;", NONE);
        faultIs("f3;f9;f5;", 3);
        faultIs("f3;l20;f4;", 7);
        faultIs("l20;f4;", 4);
        faultIs("s0,0,1;f5;", 7);
        faultIs("w0,0,1;f5;", 7);
    }

    private static void promise4FaultOfStiles() {
        faultIs("s0,0,4;", NONE);
        faultIs("s3,4,0;", NONE);
        faultIs("s03,04,00;", NONE);
        faultIs("s4,0,1;", 0);
        faultIs("s0,0,5;", 0);
        faultIs("s0,5,0;", 0);
        faultIs("s0,1,1;", 0);
        faultIs("f1;s0,0,1;", 3);
        faultIs("f8;s0,0,7;s0,7,6;", NONE);
        faultIs("f8;s0,0,8;", 3);
        faultIs("f3;f2;s0,0,2;", 6);
        faultIs("f2;f3;s0,0,2;", NONE);
        faultIs("s0,0;", 0);
        faultIs("s0;", 0);
        faultIs("s0,0,1,2;", 0);
        faultIs("s0,0,1;s0,0,1;s0,1,0;", NONE);
        faultIs(NINE_STILES, NONE);
        faultIs(NINE_STILES + "s0,0,1;", NINE_STILES.length());
        faultIs(NINE_STILES + FOUR_WALKERS, NONE);
    }

    private static void promise4FaultOfWalkers() {
        faultIs("w0,0,1;", NONE);
        faultIs("w3,4,9;", NONE);
        faultIs("w4,0,1;", 0);
        faultIs("w0,5,1;", 0);
        faultIs("w0,0,0;", 0);
        faultIs("w0,0,10;", 0);
        faultIs("w0,0,09;", NONE);
        faultIs("w0,0;", 0);
        faultIs("w0,0,1,1;", 0);
        faultIs("f8;w0,7,1;w0,8,1;", 10);
        faultIs(FOUR_WALKERS, NONE);
        faultIs(FOUR_WALKERS + "w0,0,1;", FOUR_WALKERS.length());
        faultIs(FOUR_WALKERS + "s0,0,1;", NONE);
    }

    private static void promise4FaultOfLimits() {
        faultIs("l10;", NONE);
        faultIs("l99;", NONE);
        faultIs("l9;", 0);
        faultIs("l09;", 0);
        faultIs("l00;", 0);
        faultIs("l100;", 0);
        faultIs("l20,20;", 0);
        faultIs("l20;l30;l9;", 8);
    }

    private static void promise4FaultOfForm() {
        faultIs("f", 0);
        faultIs("f3", 0);
        faultIs("f;", 0);
        faultIs(";", 0);
        faultIs("3;", 0);
        faultIs("f3;;", 3);
        faultIs("f3; ", 3);
        faultIs("f 3;", 0);
        faultIs("f-3;", 0);
        faultIs("F3;", 0);
        faultIs("x3;", 0);
        faultIs("f3,;", 0);
        faultIs("f,3;", 0);
        faultIs("f3;s0,,1;", 3);
        faultIs("f3;s,0,1;", 3);
        faultIs("f3;s0,0,1", 3);
        faultIs("f3;s0,0,1,;", 3);
        faultIs("f3;s0,0,001;", 3);
        faultIs("f3;s0,0,1:", 3);
        faultIs("f3;s0,0,1;s0,0,", 10);
        faultIs("f3;s0,0,1;s0,0/1;x", 10);
        faultIs("f3;f0;f0;", 3);
        StileAccounts x = Fields.written("f3;");
        x.write('s');
        Due.is("fault of a begun item", x.fault(), 3);
        Fields.write(x, "0,0,1;");
        Due.is("fault of the ended item", x.fault(), NONE);
        StringBuilder long200 = new StringBuilder("f1;f1");
        while (long200.length() < 199) {
            long200.append(";f1");
        }
        faultIs(long200.substring(0, 197) + ";x", 198);
        faultIs("l10;".repeat(50), NONE);
        faultIs("l10;".repeat(49) + "l9;x", 196);
    }

    private static void promise5Lay() {
        StileAccounts x = new StileAccounts();
        Fields.treads(x, 0, 0, 0, 0);
        x.sand(2);
        x.see(0, 3);
        x.keep();
        Fields.write(x, "f3;f4;s0,0,1;s1,3,2;w2,2,7;l20;l12;");
        Due.is("lay", x.lay(), 4);
        int[] counts = {4, 2, 1, 0, 0, 0, 0, 0, 0, 0, 35};
        for (int what = 0; what <= 10; what++) {
            Due.is("laid: count(" + what + ")", x.count(what), counts[what]);
        }
        Due.is("undo of another text", x.undo(), NO);
        Due.is("back to another text", x.back(), NO);
        Due.is("whose of another text", x.whose(0), 1);
        Due.is("latest of another text", x.walker(0, 5), NONE);
        Due.is("account of another text", x.account(0, 0), 1000);
        Due.is("place", x.walker(0, 1), 2);
        Fields.sands(x, 0, 2);
        Due.is("worn by 10 of 12", x.stile(0, 4), 0);
        Fields.sands(x, 0, 1);
        Due.is("worn by 15 of 12", x.stile(0, 4), 1);
        Fields.treads(x, 0, 1);
        Due.is("lay again", x.lay(), 4);
        Due.is("where he is again", x.walker(0, 1), 2);
        Due.is("worn again", x.count(5), 0);
        Due.is("letters again", x.count(10), 35);

        StileAccounts without = Fields.laid("w0,0,1;s0,0,1;");
        Due.is("fields without", without.count(0), 5);
        Fields.sands(without, 0, 7);
        Due.is("worn by 35 of 40", without.stile(0, 4), 0);
        Fields.treads(without, 0, 0, 0, 0, 0);
        Due.is("worn by 39 of 40", without.stile(0, 4), 0);
        Fields.treads(without, 0, 0);
        Due.is("worn by 40 of 40", without.stile(0, 4), 1);
    }

    private static void promise5LayRefused() {
        String[] refused = {"", "f3;", "f3;s0,0,1;", "w0,0,1", "w0,0,1;x", "w0,0,1;f3;", "f3;s0,0,1;l20;"};
        for (String text : refused) {
            StileAccounts x = new StileAccounts();
            Fields.treads(x, 0, 0);
            x.sand(4);
            x.see(1, 8);
            x.keep();
            Fields.write(x, text);
            String before = Fields.standing(x);
            Due.is("lay of " + text, x.lay(), NO);
            Fields.same("lay of " + text, x, before);
            Due.is("walker 0 goes on", x.tread(0, 1), 2);
        }
    }

    private static void promise6Stile() {
        StileAccounts x = Fields.laid("f8;s0,7,1;s1,1,2;s2,2,3;s3,3,4;w0,1,9;l27;");
        int[][] told = {{0, 7, 1}, {1, 1, 2}, {2, 2, 3}, {3, 3, 4}};
        for (int s = 0; s < 4; s++) {
            for (int what = 0; what < 3; what++) {
                Due.is("stile(" + s + ", " + what + ")", x.stile(s, what), told[s][what]);
            }
        }
        Fields.treads(x, 0, 0, 0);
        Due.is("worn by 18", x.stile(0, 3), 18);
        Due.is("18 of 27", x.stile(0, 4), 0);
        Fields.treads(x, 0, 0);
        Due.is("worn by 27", x.stile(0, 3), 27);
        Due.is("27 of 27", x.stile(0, 4), 1);
        x.replace(0);
        Due.is("worn by 0", x.stile(0, 3), 0);
        Due.is("0 of 27", x.stile(0, 4), 0);
        String before = Fields.standing(x);
        int[][] bad = {{-1, 0}, {4, 0}, {MIN, 0}, {MAX, 0}, {0, -1}, {0, 5}, {0, MIN}, {0, MAX}, {4, 5}};
        for (int[] b : bad) {
            Due.is("stile(" + b[0] + ", " + b[1] + ")", x.stile(b[0], b[1]), BAD);
        }
        Fields.same("stile", x, before);
        StileAccounts nine = Fields.laid(NINE_STILES + FOUR_WALKERS);
        Due.is("the 9th stile", nine.stile(8, 2), 2);
        Due.is("the 10th stile", nine.stile(9, 2), BAD);
        StileAccounts one = Fields.laid("f1;w0,0,1;");
        Due.is("no stile", one.stile(0, 0), BAD);
    }

    private static void promise7Walker() {
        StileAccounts x = Fields.laid("f3;s0,0,1;s3,1,2;s0,2,0;w0,0,1;w1,0,2;w2,0,3;w3,0,4;");
        for (int w = 0; w < 4; w++) {
            Due.is("kind of " + w, x.walker(w, 0), w);
            Due.is("field of " + w, x.walker(w, 1), 0);
            Due.is("weight of " + w, x.walker(w, 2), w + 1);
            Due.is("credit of " + w, x.walker(w, 3), 0);
            Due.is("level " + w, x.walker(w, 4), 1);
            Due.is("latest of " + w, x.walker(w, 5), NONE);
            Fields.treads(x, w, 0, 1);
        }
        int[] credits = {1, 2, 1, 0};
        for (int w = 0; w < 4; w++) {
            Due.is("field then of " + w, x.walker(w, 1), 2);
            Due.is("credit then of " + w, x.walker(w, 3), credits[w]);
            Due.is("level then " + w, x.walker(w, 4), 0);
            Due.is("latest then of " + w, x.walker(w, 5), 1);
        }
        Fields.treads(x, 1, 1, 0);
        Due.is("level by going back", x.walker(1, 4), 1);
        Due.is("latest by going back", x.walker(1, 5), 0);
        x.replace(0);
        Due.is("the gate's account counts", x.walker(0, 4), 0);
        x.replace(1);
        Due.is("level by what is replaced", x.walker(0, 4), 1);
        Due.is("latest stays", x.walker(0, 5), 1);
        Due.is("credit stays", x.walker(0, 3), 1);
        String before = Fields.standing(x);
        int[][] bad = {{-1, 0}, {4, 0}, {MIN, 0}, {MAX, 0}, {0, -1}, {0, 6}, {0, MIN}, {0, MAX}};
        for (int[] b : bad) {
            Due.is("walker(" + b[0] + ", " + b[1] + ")", x.walker(b[0], b[1]), BAD);
        }
        Fields.same("walker", x, before);
        Due.is("the second of one walker", Fields.laid("w0,0,1;").walker(1, 0), BAD);
    }

    private static void promise8Account() {
        StileAccounts x = Fields.laid("f3;s2,0,1;s3,1,2;s2,0,2;w0,0,9;w1,1,9;");
        Fields.treads(x, 0, 0, 1, 2);
        Due.is("from A to B", x.account(0, 0), 1001);
        Due.is("over a gate", x.account(0, 1), 1001);
        Due.is("from B to A", x.account(0, 2), 999);
        Due.is("of another", x.account(1, 0), 1000);
        Fields.treads(x, 0, 0, 1, 2);
        Due.is("twice", x.account(0, 0), 1002);
        Due.is("twice from B to A", x.account(0, 2), 998);
        Fields.treads(x, 0, 0, 0);
        Due.is("over and back", x.account(0, 0), 1002);
        String before = Fields.standing(x);
        int[][] bad = {{-1, 0}, {2, 0}, {0, -1}, {0, 3}, {MIN, 0}, {0, MAX}, {2, 3}};
        for (int[] b : bad) {
            Due.is("account(" + b[0] + ", " + b[1] + ")", x.account(b[0], b[1]), BAD);
        }
        Fields.same("account", x, before);
        StileAccounts round = Fields.laid("f2;s2,0,1;s2,0,1;w0,0,1;");
        for (int i = 0; i < 200; i++) {
            round.tread(0, 0);
            round.tread(0, 1);
        }
        Due.is("200 times", round.account(0, 0), 1200);
        Due.is("200 times back", round.account(0, 1), 800);
        Due.is("400 to make level", round.even(0), 400);
        Due.is("400 treads", round.count(3), 400);
    }

    private static void promise9Tread() {
        StileAccounts x = Fields.laid("f4;s0,3,1;s2,1,0;w0,1,4;l10;");
        Due.is("from B to A", x.tread(0, 0), 3);
        Due.is("from A to B", x.tread(0, 0), 1);
        Due.is("over another", x.tread(0, 1), 0);
        Due.is("latest", x.walker(0, 5), 1);
        Due.is("place", x.walker(0, 1), 0);
        Due.is("treads", x.count(3), 3);
        Due.is("credit", x.count(6), 3);
        Due.is("undone", x.count(8), 3);
        Fields.treads(x, 0, 1);
        Due.is("worn by 8 of 10", x.tread(0, 0), 3);
        Due.is("worn by 12 of 10", x.tread(0, 0), NO);
        StileAccounts edge = Fields.laid("f2;s0,0,1;w0,0,9;w0,0,1;l19;");
        Fields.treads(edge, 0, 0, 0);
        Due.is("worn by one less", edge.tread(1, 0), 1);
        Due.is("worn by L", edge.tread(1, 0), NO);
        Due.is("worn", edge.stile(0, 3), 19);
    }

    private static void promise9TreadRefused() {
        StileAccounts x = new StileAccounts();
        Fields.treads(x, 0, 0);
        Fields.sands(x, 1, 6);
        String before = Fields.standing(x);
        int[][] bad = {{-1, 0}, {4, 0}, {0, -1}, {0, 7}, {MIN, MIN}, {MAX, MAX}, {4, 3}};
        for (int[] b : bad) {
            Due.is("tread(" + b[0] + ", " + b[1] + ")", x.tread(b[0], b[1]), BAD);
        }
        Due.is("not at his field", x.tread(0, 2), NO);
        Due.is("not at his field", x.tread(0, 3), NO);
        Due.is("broken", x.tread(0, 1), NO);
        Due.is("broken for another", x.tread(1, 1), NO);
        Fields.same("tread", x, before);
    }

    private static void promise9Wear() {
        int[][] wears = {{3, 6, 0, 0}, {3, 6, 0, 0}, {6, 12, 0, 0}, {3, 6, 0, 0}};
        int[][] gains = {{1, 1, 1, 0}, {2, 2, 2, 0}, {1, 1, 1, 0}, {0, 0, 0, 0}};
        for (int s = 0; s < 4; s++) {
            StileAccounts x = Fields.laid("f2;s0,0,1;s1,0,1;s2,0,1;s3,0,1;w0,0,3;w1,1,3;w2,0,3;w3,1,3;");
            int worn = 0;
            for (int w = 0; w < 4; w++) {
                Fields.treads(x, w, s);
                worn += wears[w][s];
                Due.is("worn: stile " + s + " by walker " + w, x.stile(s, 3), worn);
                Due.is("credit of walker " + w + " by stile " + s, x.walker(w, 3), gains[w][s]);
                Due.is("account", x.account(w, s), w % 2 == 0 ? 1001 : 999);
            }
            Due.is("worn alone", x.count(5), worn);
        }
    }

    private static void promise10Replace() {
        StileAccounts x = Fields.laid("f3;s0,0,1;s1,1,2;w0,0,4;w1,0,5;w3,0,9;l10;");
        Fields.treads(x, 0, 0, 1);
        Fields.treads(x, 1, 0);
        Due.is("replace", x.replace(0), 9);
        Due.is("worn then", x.stile(0, 3), 0);
        Due.is("account of 0", x.account(0, 0), 1000);
        Due.is("account of 1", x.account(1, 0), 1000);
        Due.is("another's account", x.account(0, 1), 1001);
        Due.is("another's wear", x.stile(1, 3), 8);
        Due.is("credit stays", x.count(6), 4);
        Due.is("treads stay", x.count(3), 3);
        Due.is("place stays", x.walker(0, 1), 2);
        Due.is("replace what is not worn", x.replace(0), 0);
        Due.is("undone", x.count(8), 5);
        Fields.sands(x, 1, 1);
        Due.is("broken", x.tread(0, 1), NO);
        Due.is("replace what is broken", x.replace(1), 13);
        Due.is("not broken then", x.tread(0, 1), 1);
        String before = Fields.standing(x);
        int[] bad = {-1, 2, MIN, MAX};
        for (int s : bad) {
            Due.is("replace(" + s + ")", x.replace(s), BAD);
        }
        Fields.same("replace", x, before);
    }

    private static void promise11Sand() {
        StileAccounts x = Fields.laid("f2;s0,0,1;s1,0,1;s2,0,1;s3,0,1;w0,0,3;l12;");
        for (int s = 0; s < 4; s++) {
            Due.is("sand " + s, x.sand(s), 5);
            Due.is("sand again " + s, x.sand(s), 10);
            Due.is("10 of 12", x.stile(s, 4), 0);
            Due.is("sand a third time " + s, x.sand(s), 15);
            Due.is("15 of 12", x.stile(s, 4), 1);
        }
        Due.is("accounts stay", x.walker(0, 4), 1);
        Due.is("no treads", x.count(3), 0);
        Due.is("undone", x.count(8), 8);
        String before = Fields.standing(x);
        int[] bad = {-1, 4, MIN, MAX};
        for (int s : bad) {
            Due.is("sand(" + s + ")", x.sand(s), BAD);
        }
        Fields.same("sand", x, before);
        StileAccounts worn = Fields.laid("f2;s0,0,1;w0,0,1;");
        Fields.sands(worn, 0, 198);
        Due.is("the 199th time", worn.sand(0), 995);
        Due.is("the 200th time", worn.sand(0), 999);
        Due.is("the 201st time", worn.sand(0), 999);
        Due.is("in sum", worn.count(5), 999);
        worn.undo();
        worn.undo();
        Due.is("undone", worn.stile(0, 3), 995);
        Due.is("replaced", worn.replace(0), 995);
    }

    private static void promise12Undo() {
        StileAccounts x = new StileAccounts();
        Due.is("nothing to undo", x.undo(), NO);
        for (int i = 1; i <= 9; i++) {
            Due.is("sand", x.sand(3), 5 * i);
            Due.is("can be undone", x.count(8), Math.min(i, 8));
        }
        x.tread(0, 1);
        x.sand(9);
        x.replace(-1);
        for (int left = 7; left >= 0; left--) {
            Due.is("undo", x.undo(), left);
            Due.is("left", x.count(8), left);
            Due.is("worn", x.stile(3, 3), 5 * left + 5);
        }
        String before = Fields.standing(x);
        Due.is("the 9th", x.undo(), NO);
        Fields.same("undo", x, before);
        Due.is("sand again", x.sand(3), 10);
        Due.is("undo again", x.undo(), 0);
        Due.is("worn again", x.stile(3, 3), 5);
    }

    private static void promise12UndoRestoresAll() {
        StileAccounts x = new StileAccounts();
        Fields.treads(x, 0, 0, 1);
        Fields.treads(x, 1, 2);
        x.sand(0);
        String[] standings = new String[4];
        standings[0] = withoutUndone(x);
        x.see(0, 3);
        x.forget();
        x.replace(0);
        Due.is("replaced", x.account(0, 0), 1000);
        standings[1] = withoutUndone(x);
        Fields.treads(x, 0, 6);
        Due.is("latest", x.walker(0, 5), 6);
        standings[2] = withoutUndone(x);
        x.sand(6);
        Due.is("undo the sanding", x.undo(), 6);
        Due.holds("as ahead of the sanding", withoutUndone(x).equals(standings[2]));
        Due.is("undo the tread", x.undo(), 5);
        Due.holds("as ahead of the tread", withoutUndone(x).equals(standings[1]));
        Due.is("undo the replacing", x.undo(), 4);
        Due.holds("as ahead of the replacing", withoutUndone(x).equals(standings[0]));
        Due.is("latest again", x.walker(0, 5), 1);
        Due.is("account again", x.account(0, 0), 1001);
        Due.is("treads again", x.count(3), 3);
        while (x.undo() != NO) {
            Due.holds("few", x.count(8) < 8);
        }
        Due.is("latest at first", x.walker(0, 5), NONE);
        Due.is("credit at first", x.count(6), 0);
    }

    private static void promise12UndoOfTheLastOnes() {
        StileAccounts x = Fields.laid("f8;" + "s2,0,1;".repeat(8) + "s1,7,0;w0,7,1;w1,0,2;w0,0,3;w3,0,4;");
        Fields.treads(x, 3, 8, 8, 8);
        Fields.treads(x, 2, 8);
        x.replace(8);
        Due.is("the last walker's account replaced", x.account(3, 8), 1000);
        Due.is("undo", x.undo(), 4);
        Due.is("the last walker's account again", x.account(3, 8), 999);
        Due.is("the last but one's account again", x.account(2, 8), 999);
        Due.is("the last stile's wear again", x.stile(8, 3), 24 + 6);
        Due.is("undo", x.undo(), 3);
        Due.is("the last but one's place again", x.walker(2, 1), 0);
        Due.is("undo", x.undo(), 2);
        Due.is("the last one's place again", x.walker(3, 1), 0);
        Due.is("the last one's account of two treads", x.account(3, 8), 1000);
    }

    private static String withoutUndone(StileAccounts x) {
        StringBuilder all = new StringBuilder();
        for (int w = 0; w < x.count(2); w++) {
            for (int what = 1; what <= 5; what++) {
                all.append(x.walker(w, what)).append(' ');
            }
        }
        for (int s = 0; s < 3; s++) {
            all.append(x.stile(s, 3)).append(' ').append(x.account(0, s)).append(' ').append(x.account(1, s)).append(' ');
        }
        return all.append(x.count(3)).append(' ').append(x.count(5)).append(' ').append(x.count(6)).toString();
    }

    private static void promise13Way() {
        StileAccounts x = Fields.laid("f6;s0,1,0;s2,3,0;s0,0,2;s0,1,3;s0,2,3;s3,3,4;w0,0,9;w1,4,5;l10;");
        Due.is("he is there", x.way(0, 0, 0), 0);
        Due.is("no first stile", x.way(0, 0, 1), NONE);
        Due.is("one tread", x.way(0, 3, 0), 1);
        Due.is("by 1", x.way(0, 3, 1), 1);
        Due.is("two treads", x.way(0, 4, 0), 2);
        Due.is("from the other side", x.way(1, 0, 0), 2);
        Due.is("first", x.way(1, 0, 1), 5);
        Due.is("no way", x.way(0, 5, 0), NONE);
        Due.is("no first", x.way(0, 5, 1), NONE);
        Due.is("no way from 4", x.way(1, 5, 0), NONE);
        Fields.sands(x, 1, 1);
        Due.is("5 of 10", x.way(0, 3, 0), 1);
        Fields.sands(x, 1, 1);
        Due.is("10 of 10", x.way(0, 3, 0), 2);
        Due.is("the lowest of two", x.way(0, 3, 1), 0);
        Due.is("by a broken one", x.way(0, 4, 0), 3);
        Fields.sands(x, 3, 2);
        Due.is("by the other", x.way(0, 3, 1), 2);
        Fields.sands(x, 4, 2);
        Due.is("all are broken", x.way(0, 3, 0), NONE);
        Due.is("all are broken", x.way(0, 3, 1), NONE);
        Due.is("but 3 to 4", x.way(1, 3, 0), 1);
        String before = Fields.standing(x);
        int[][] bad = {{-1, 0, 0}, {2, 0, 0}, {0, -1, 0}, {0, 6, 0}, {0, 0, -1}, {0, 0, 2}, {MIN, MAX, MIN}, {0, 5, 2}};
        for (int[] b : bad) {
            Due.is("way(" + b[0] + ", " + b[1] + ", " + b[2] + ")", x.way(b[0], b[1], b[2]), BAD);
        }
        Fields.same("way", x, before);
        StileAccounts row = Fields.laid("f8;s2,0,1;s2,1,2;s2,2,3;s2,3,4;s2,4,5;s2,5,6;s2,6,7;w0,7,1;");
        Due.is("the longest way", row.way(0, 0, 0), 7);
        Due.is("the first of the longest way", row.way(0, 0, 1), 6);
        StileAccounts through = Fields.laid("f3;s2,1,0;s2,2,0;w0,1,1;");
        Due.is("over field 0", through.way(0, 2, 0), 2);
        Due.is("the first over field 0", through.way(0, 2, 1), 0);
        Due.is("f1", Fields.laid("f1;w0,0,1;").way(0, 0, 0), 0);
    }

    private static void promise14Even() {
        StileAccounts x = Fields.laid("f5;s2,0,1;s2,1,2;s2,2,0;s3,2,3;s0,3,4;w0,0,5;w1,3,5;l10;");
        Due.is("level at first", x.even(0), 0);
        Fields.treads(x, 0, 0);
        Due.is("one back", x.even(0), 1);
        Fields.treads(x, 0, 1, 2);
        Due.is("round", x.even(0), 3);
        Fields.treads(x, 0, 0, 1);
        Due.is("nearly twice round", x.even(0), 5);
        Fields.treads(x, 0, 3, 4);
        Due.is("away", x.even(0), 7);
        Fields.sands(x, 4, 1);
        Due.is("broken", x.tread(0, 4), NO);
        Due.is("over a broken one", x.even(0), 7);
        x.replace(4);
        Due.is("off by a replaced one", x.even(0), NONE);
        Fields.treads(x, 0, 4);
        Due.is("the tread back over it is one too many", x.even(0), NONE);
        x.replace(4);
        Due.is("as ahead of it", x.even(0), 6);
        Due.is("of another", x.even(1), 0);
        String before = Fields.standing(x);
        int[] bad = {-1, 2, MIN, MAX};
        for (int w : bad) {
            Due.is("even(" + w + ")", x.even(w), BAD);
        }
        Fields.same("even", x, before);
    }

    private static void promise14EvenByWhatWasReplaced() {
        StileAccounts x = Fields.laid("f6;s2,0,1;s2,1,2;s2,2,0;s2,2,3;s2,3,4;s2,0,5;s2,5,3;w0,0,1;");
        Fields.treads(x, 0, 0, 1, 2, 0, 1, 3);
        x.replace(3);
        Due.is("not from where he is", x.even(0), NONE);
        Fields.treads(x, 0, 3);
        x.replace(3);
        Due.is("from there again", x.even(0), 5);
        Fields.treads(x, 0, 1, 0);
        Due.is("a round", x.even(0), 3);
        Fields.treads(x, 0, 5, 5);
        Due.is("a round from 0", x.even(0), 3);
        Fields.treads(x, 0, 5);
        x.replace(5);
        Due.is("a round from 5: over and back by one other", x.even(0), 5);
        Fields.treads(x, 0, 6, 4);
        x.replace(6);
        x.replace(4);
        Due.is("a round from 4: over and back by two others", x.even(0), 7);
        StileAccounts apart = Fields.laid("f8;s2,0,1;s2,1,2;s2,2,0;s2,2,3;s2,3,4;s2,4,5;s2,5,6;s2,6,4;s2,3,0;w0,0,1;");
        Fields.treads(apart, 0, 0, 1, 2, 8, 4, 5, 6, 7);
        apart.replace(8);
        apart.replace(4);
        Due.is("two rounds, from one of them", apart.even(0), 10);
        StileAccounts gap = Fields.laid("f4;s2,0,1;s2,1,2;s2,2,3;s2,3,1;w0,0,1;");
        Fields.treads(gap, 0, 0, 1, 2, 3);
        gap.replace(0);
        Due.is("a round from 1", gap.even(0), 3);
        Fields.treads(gap, 0, 1);
        Due.is("a round and one, from 2", gap.even(0), 4);
        gap.replace(1);
        Due.is("what is left of the round is no walk from 2", gap.even(0), NONE);
        StileAccounts ends = Fields.laid("f6;s2,0,1;s2,1,2;s2,2,3;s2,3,4;s2,4,5;w0,0,1;");
        Fields.treads(ends, 0, 0, 1, 2, 3, 4);
        ends.replace(2);
        Due.is("two walks", ends.even(0), NONE);
    }

    private static void promise15Measure() {
        StileAccounts x = Fields.laid("f4;s2,0,1;s2,1,2;s2,2,3;s2,3,0;w0,0,1;w0,1,1;w0,2,1;w0,3,1;");
        Due.is("all level: which", x.measure(0), 0);
        Due.is("all level: how many", x.measure(1), 0);
        Fields.treads(x, 1, 1);
        Due.is("one", x.measure(0), 2);
        Fields.treads(x, 2, 2);
        Due.is("two: which", x.measure(0), 6);
        Due.is("two: how many", x.measure(1), 2);
        Fields.treads(x, 1, 2);
        Due.is("one of both", x.measure(0), 4);
        Due.is("one of both: how many", x.measure(1), 1);
        Fields.treads(x, 0, 0, 1);
        Due.is("0 and 2 are lower than 1 and 2", x.measure(0), 5);
        Fields.treads(x, 3, 3);
        Due.is("3 more: which", x.measure(0), 13);
        Due.is("3 more: how many", x.measure(1), 3);
        x.replace(2);
        Due.is("by 1 and 3", x.measure(0), 10);
        x.replace(1);
        Due.is("by 0 and 3", x.measure(0), 9);
        Fields.treads(x, 0, 2, 2);
        Due.is("over and back is none", x.measure(0), 9);
        String before = Fields.standing(x);
        int[] bad = {-1, 2, MIN, MAX};
        for (int what : bad) {
            Due.is("measure(" + what + ")", x.measure(what), BAD);
        }
        Fields.same("measure", x, before);
        StileAccounts nine = Fields.laid("f2;" + "s2,0,1;".repeat(9) + "w0,0,1;");
        Fields.treads(nine, 0, 8);
        Due.is("the 9th", nine.measure(0), 256);
        StileAccounts none = Fields.laid("w0,0,1;");
        Due.is("no stile: which", none.measure(0), 0);
        Due.is("no stile: how many", none.measure(1), 0);
    }

    private static void promise16Fresh() {
        StileAccounts row = Fields.laid("f4;s0,0,1;s0,1,2;s0,3,2;w0,0,1;l10;");
        Due.is("of 02, 03, 13: which", row.fresh(0), 2);
        Due.is("by how much", row.fresh(1), 2);
        StileAccounts long5 = Fields.laid("f5;s0,0,1;s0,1,2;s0,2,3;s0,3,4;w0,0,1;l10;");
        Due.is("a row of 5: which", long5.fresh(0), 4);
        Due.is("a row of 5: by how much", long5.fresh(1), 5);
        Fields.sands(long5, 2, 2);
        Due.is("a broken one parts it: not it itself", long5.fresh(0), 13);
        Due.is("a broken one parts it: by how much", long5.fresh(1), 6 * 20 - (2 + 1 + 2 + 3 + 2 + 3));
        StileAccounts all = Fields.laid("f3;s0,0,1;s2,2,1;s3,2,0;w0,0,1;l10;");
        Due.is("all are there: which", all.fresh(0), NONE);
        Due.is("all are there: by how much", all.fresh(1), NONE);
        Fields.sands(all, 0, 2);
        Due.is("a broken one counts as one", all.fresh(0), NONE);
        StileAccounts one = Fields.laid("f1;w0,0,1;");
        Due.is("one field: which", one.fresh(0), NONE);
        Due.is("one field: by how much", one.fresh(1), NONE);
        Due.is("BAD ahead of NONE", one.fresh(2), BAD);
        StileAccounts two = Fields.laid("f2;w0,0,1;");
        Due.is("two fields: which", two.fresh(0), 1);
        Due.is("two fields: by how much", two.fresh(1), 19);
        StileAccounts eight = Fields.laid("f8;s0,6,7;w0,0,1;");
        Due.is("six alone and two together: which", eight.fresh(0), 6);
        Due.is("six alone and two together: by how much", eight.fresh(1), 19 + 18);
        StileAccounts high = Fields.laid("f8;s2,0,1;s2,0,2;s2,0,3;s2,0,4;s2,0,5;s2,0,6;s2,7,1;w0,0,1;");
        Due.is("a star with a tail: which", high.fresh(0), 7);
        Due.is("a star with a tail: by how much", high.fresh(1), 6);
        StileAccounts last = Fields.laid("f7;s2,0,1;s2,1,2;s2,2,3;s2,3,4;s2,4,0;s2,5,6;s2,5,4;w0,0,1;l10;");
        Fields.sands(last, 6, 2);
        Due.is("a ring and two behind a broken one: which", last.fresh(0), 5);
        Due.is("a ring and two behind a broken one: by how much", last.fresh(1), 200 - (1 + 2 + 2 + 3 + 3) - (2 + 3 + 3 + 4 + 4));
        StileAccounts only = Fields.laid("f8;s2,0,1;s2,0,2;s2,1,2;s2,3,4;s2,4,5;s2,3,5;s2,6,7;w0,0,1;l10;");
        Due.is("three parts: which", only.fresh(0), 3);
        StileAccounts stars = Fields.laid("f8;s2,3,0;s2,3,1;s2,3,2;s2,6,4;s2,6,5;s2,6,7;w0,0,1;");
        Due.is("two stars: which", stars.fresh(0), 36);
        Due.is("two stars: by how much", stars.fresh(1), 16 * 20 - 40);
        StileAccounts few = Fields.laid("f4;s2,0,1;s2,0,2;s2,0,3;s2,1,2;s2,1,3;w0,0,1;");
        Due.is("the last of all pairs: which", few.fresh(0), 23);
        Due.is("the last of all pairs: by how much", few.fresh(1), 1);
        String before = Fields.standing(row);
        int[] bad = {-1, 2, MIN, MAX};
        for (int what : bad) {
            Due.is("fresh(" + what + ")", row.fresh(what), BAD);
        }
        Fields.same("fresh", row, before);
    }

    private static void promise17Lasts() {
        StileAccounts x = Fields.laid("f2;s0,0,1;s1,0,1;s2,0,1;s3,0,1;w0,0,3;w1,0,1;w2,0,3;w3,1,9;l12;");
        Due.is("oak by 3", x.lasts(0, 0), 4);
        Due.is("oak by 1", x.lasts(0, 1), 12);
        Due.is("oak by 6", x.lasts(0, 2), 2);
        Due.is("oak by 9", x.lasts(0, 3), 2);
        Due.is("elm by 6", x.lasts(1, 0), 2);
        Due.is("elm by 12", x.lasts(1, 2), 1);
        Due.is("elm by 18", x.lasts(1, 3), 1);
        Due.is("stone", x.lasts(2, 0), NONE);
        Due.is("gate", x.lasts(3, 2), NONE);
        Fields.treads(x, 1, 0);
        Due.is("11 left by 3", x.lasts(0, 0), 4);
        Fields.treads(x, 1, 0, 0);
        Due.is("9 left by 3", x.lasts(0, 0), 3);
        Fields.sands(x, 2, 2);
        Due.is("a stone worn by 10 of 12", x.lasts(2, 0), NONE);
        Fields.sands(x, 2, 1);
        Due.is("a broken stone", x.lasts(2, 0), 0);
        Fields.treads(x, 3, 0);
        Due.is("worn by 12", x.lasts(0, 1), 0);
        String before = Fields.standing(x);
        int[][] bad = {{-1, 0}, {4, 0}, {0, -1}, {0, 4}, {MIN, 0}, {0, MAX}, {4, 4}};
        for (int[] b : bad) {
            Due.is("lasts(" + b[0] + ", " + b[1] + ")", x.lasts(b[0], b[1]), BAD);
        }
        Fields.same("lasts", x, before);
        Due.is("99 by 1", Fields.laid("s0,0,1;w0,0,1;l99;").lasts(0, 0), 99);
    }

    private static void promise18Richest() {
        StileAccounts x = Fields.laid("f2;s2,0,1;s3,0,1;w0,0,1;w3,0,1;w1,0,1;w2,0,1;");
        Due.is("none has any", x.richest(), 0);
        Fields.treads(x, 1, 0);
        Due.is("carried", x.richest(), 0);
        Fields.treads(x, 3, 0);
        Due.is("1 of a sander", x.richest(), 3);
        Fields.treads(x, 0, 0);
        Due.is("the lowest of two", x.richest(), 0);
        Fields.treads(x, 2, 1, 1, 1);
        Due.is("over a gate", x.richest(), 0);
        Fields.treads(x, 2, 0);
        Due.is("2 of a tall one", x.richest(), 2);
        StileAccounts second = Fields.laid("f2;s2,0,1;w0,0,1;w0,0,1;");
        Fields.treads(second, 1, 0);
        Due.is("the last but one", second.richest(), 1);
        Fields.treads(x, 3, 0, 0);
        Due.is("3 of a sander", x.richest(), 3);
        x.replace(0);
        Due.is("replaced", x.richest(), 3);
        x.undo();
        x.undo();
        Due.is("undone", x.richest(), 2);
    }

    private static void promise19See() {
        StileAccounts x = new StileAccounts();
        int[][] bad = {{-1, 0}, {7, 0}, {0, -1}, {0, 1000}, {MIN, 0}, {MAX, 0}, {0, MIN}, {0, MAX}};
        String before = Fields.standing(x);
        for (int[] b : bad) {
            Due.is("see(" + b[0] + ", " + b[1] + ")", x.see(b[0], b[1]), BAD);
        }
        Fields.same("see BAD", x, before);
        Due.is("the least", x.see(0, 0), 1);
        Due.is("the most", x.see(6, 999), 2);
        for (int i = 3; i <= 6; i++) {
            Due.is("see", x.see(0, 0), i);
        }
        before = Fields.standing(x);
        Due.is("the 7th", x.see(0, 1), FULL);
        Due.is("BAD ahead of FULL", x.see(7, 0), BAD);
        Due.is("BAD ahead of FULL", x.see(0, 1000), BAD);
        Fields.same("see FULL", x, before);
        Due.is("nothing is worn", x.count(5), 0);
        Due.is("nothing is undone", x.count(8), 0);
    }

    private static void promise20Forget() {
        StileAccounts x = new StileAccounts();
        Due.is("nothing", x.forget(), 0);
        for (int i = 0; i < 6; i++) {
            x.see(0, 1);
        }
        Due.is("whose", x.whose(0), 0);
        Due.is("six", x.forget(), 6);
        Due.is("none then", x.count(7), 0);
        Due.is("whose then", x.whose(0), 15);
        Due.is("forget again", x.forget(), 0);
        Due.is("see again", x.see(0, 3), 1);
        Due.is("whose again", x.whose(0), 1);
        Due.is("forget one", x.forget(), 1);
    }

    private static void promise21Whose() {
        StileAccounts x = Fields.laid("f2;s0,0,1;s1,0,1;s2,0,1;s3,0,1;w0,0,2;w1,0,3;w2,0,3;w3,0,5;l10;");
        for (int s = 0; s < 4; s++) {
            Due.is("whose of nothing", x.whose(s), 15);
        }
        x.see(0, 30);
        Due.is("30 of oak", x.whose(0), 15);
        x.see(0, 6);
        Due.is("6 of oak", x.whose(0), 1 + 2 + 4);
        x.see(0, 3);
        Due.is("3 of oak", x.whose(0), 2);
        Due.is("of another", x.whose(1), 15);
        x.see(1, 20);
        Due.is("20 of elm", x.whose(1), 1 + 8);
        x.see(2, 0);
        Due.is("0 of stone", x.whose(2), 15);
        x.see(3, 1);
        Due.is("1 of a gate", x.whose(3), 0);
        Due.is("oak still", x.whose(0), 2);
        String before = Fields.standing(x);
        int[] bad = {-1, 4, MIN, MAX};
        for (int s : bad) {
            Due.is("whose(" + s + ")", x.whose(s), BAD);
        }
        Fields.same("whose", x, before);
        x.forget();
        x.see(0, 999);
        Due.is("999 is no bound", x.whose(0), 2);
        x.see(0, 0);
        Due.is("0 is always", x.whose(0), 2);
        StileAccounts two = Fields.laid("s0,0,1;w0,0,1;w0,0,1;");
        Due.is("of two walkers", two.whose(0), 3);
        two.see(0, 999);
        two.tread(0, 0);
        Due.is("whatever it is worn by", two.whose(0), 3);
    }

    private static void promise22Often() {
        StileAccounts x = Fields.laid("f2;s0,0,1;s1,0,1;s2,0,1;s3,0,1;w0,0,2;w1,0,1;w2,0,3;w3,0,9;l10;");
        Due.is("oak by 2", x.often(0, 0, 6), 3);
        Due.is("oak by 2, odd", x.often(0, 0, 7), NONE);
        Due.is("elm by 4", x.often(0, 1, 8), 2);
        Due.is("elm by 4, 6", x.often(0, 1, 6), NONE);
        Due.is("oak by 1, the most", x.often(1, 0, 999), 999);
        Due.is("sander, oak by 6", x.often(2, 0, 996), 166);
        Due.is("sander, elm by 12", x.often(2, 1, 36), 3);
        Due.is("carried, oak by 9", x.often(3, 0, 999), 111);
        Due.is("carried, less than one", x.often(3, 0, 8), NONE);
        Due.is("nothing of oak", x.often(3, 0, 0), 0);
        Due.is("nothing of stone", x.often(0, 2, 0), 0);
        Due.is("nothing of a gate", x.often(0, 3, 0), 0);
        Due.is("something of stone", x.often(0, 2, 2), NONE);
        Due.is("something of a gate", x.often(0, 3, 999), NONE);
        String before = Fields.standing(x);
        int[][] bad = {{-1, 0, 0}, {4, 0, 0}, {0, -1, 0}, {0, 4, 0}, {0, 0, -1}, {0, 0, 1000}, {0, 2, MAX}, {0, 2, MIN}};
        for (int[] b : bad) {
            Due.is("often(" + b[0] + ", " + b[1] + ", " + b[2] + ")", x.often(b[0], b[1], b[2]), BAD);
        }
        Fields.same("often", x, before);
    }

    private static void drunkIs(StileAccounts x, int[] call, int above, int below) {
        String told = "drunk(" + call[0] + ", " + call[1] + ", " + call[2] + ", " + call[3] + ")";
        Due.is(told + " above", x.drunk(call[0], call[1], call[2], call[3], 0), above);
        Due.is(told + " below", x.drunk(call[0], call[1], call[2], call[3], 1), below);
    }

    private static void promise23Drunk() {
        StileAccounts x = Fields.laid("f5;s0,0,1;s1,0,2;s2,0,3;s3,3,2;w0,0,9;w1,4,1;l10;");
        drunkIs(x, new int[] {0, 0, 0, 10}, 1, 1);
        drunkIs(x, new int[] {0, 1, 0, 10}, 0, 1);
        drunkIs(x, new int[] {0, 1, 1, 10}, 1, 1);
        drunkIs(x, new int[] {0, 3, 1, 0}, 1, 1);
        drunkIs(x, new int[] {0, 2, 1, 5}, 0, 1);
        drunkIs(x, new int[] {0, 1, 1, 4}, 2, 5);
        drunkIs(x, new int[] {0, 3, 1, 4}, 3, 5);
        drunkIs(x, new int[] {0, 0, 2, 3}, 51, 100);
        drunkIs(x, new int[] {0, 2, 2, 3}, 49, 100);
        drunkIs(x, new int[] {0, 4, 8, 3}, 0, 1);
        drunkIs(x, new int[] {1, 4, 8, 3}, 1, 1);
        drunkIs(x, new int[] {1, 4, 1, 3}, 1, 1);
        drunkIs(x, new int[] {1, 0, 8, 3}, 0, 1);
        Due.is("nothing is worn", x.count(5), 0);
        Due.is("nobody goes", x.count(3), 0);
        Fields.sands(x, 0, 2);
        drunkIs(x, new int[] {0, 2, 1, 4}, 2, 5);
        drunkIs(x, new int[] {0, 1, 1, 4}, 0, 1);
        Fields.sands(x, 2, 2);
        drunkIs(x, new int[] {0, 2, 1, 4}, 1, 1);
        Fields.sands(x, 1, 2);
        drunkIs(x, new int[] {0, 0, 8, 4}, 1, 1);
        String before = Fields.standing(x);
        int[][] bad = {{-1, 0, 0, 0, 0}, {2, 0, 0, 0, 0}, {0, -1, 0, 0, 0}, {0, 5, 0, 0, 0}, {0, 0, -1, 0, 0},
            {0, 0, 9, 0, 0}, {0, 0, 0, -1, 0}, {0, 0, 0, 11, 0}, {0, 0, 0, 0, -1}, {0, 0, 0, 0, 2}, {MIN, MAX, MIN, MAX, MIN}};
        for (int[] b : bad) {
            Due.is("drunk of a bad number", x.drunk(b[0], b[1], b[2], b[3], b[4]), BAD);
        }
        Fields.same("drunk", x, before);
        StileAccounts deep = Fields.laid("f3;s2,0,1;s2,1,2;s2,2,1;w0,1,1;");
        // from 1 over s0 by 1 of ten, else over s2; from 0 and from 2 (by 1 and 2) back to 1
        drunkIs(deep, new int[] {0, 1, 8, 1}, 1, 1);
        drunkIs(deep, new int[] {0, 0, 7, 1}, 1, 10);
        StileAccounts far = Fields.laid("f2;s2,0,1;w0,0,1;");
        drunkIs(far, new int[] {0, 0, 8, 0}, 1, 1);
        // back is over the lowest, on over the highest
        StileAccounts lost = Fields.laid("f8;s2,1,0;s2,1,2;s2,2,3;s2,3,4;s2,4,5;s2,5,6;s2,6,7;w0,1,1;");
        drunkIs(lost, new int[] {0, 7, 6, 9}, 1, 1000000);
        // two treads more: by 0 (900), from 2 to 6 one back and on again (5 times 90), from 7 back and on (100)
        drunkIs(lost, new int[] {0, 7, 8, 9}, 1450 / 50, 1000000000 / 50);
    }

    private static int draw(int z, int k) {
        BigInteger x = BigInteger.valueOf(7919).multiply(BigInteger.valueOf(z))
            .add(BigInteger.valueOf(6151).multiply(BigInteger.valueOf(k))).add(BigInteger.ONE);
        return x.multiply(x).mod(BigInteger.valueOf(65521)).intValue();
    }

    /** Does in treads and replacings what a year tells. */
    private static void liveOn(StileAccounts x, int z, int k) {
        int draw = draw(z, k);
        int w = draw % x.count(2);
        int f = x.walker(w, 1);
        List<Integer> open = new ArrayList<>();
        List<Integer> all = new ArrayList<>();
        for (int s = 0; s < x.count(1); s++) {
            if (x.stile(s, 1) == f || x.stile(s, 2) == f) {
                all.add(s);
                if (x.stile(s, 4) == 0) {
                    open.add(s);
                }
            }
        }
        if (!open.isEmpty()) {
            x.tread(w, open.get(draw / 4 % open.size()));
        } else if (!all.isEmpty()) {
            x.replace(all.get(0));
        }
    }

    private static void promise24Year() {
        String[] texts = {Fields.FIRST, "f3;s0,0,1;s1,1,2;s0,2,0;w2,0,9;w1,1,9;l10;", "f2;s1,0,1;s0,0,1;w2,0,9;w0,0,1;w3,1,2;l12;",
            "f2;s0,0,1;w0,0,9;w1,1,9;l10;", "f3;s0,0,1;w1,2,9;", "f3;s0,1,2;s1,0,1;w1,2,3;l10;",
            "f3;" + "s0,0,1;".repeat(9) + "w0,2,3;w0,0,3;"};
        int[] years = {0, 1, 77, 5000, 9999};
        for (String text : texts) {
            for (int z : years) {
                StileAccounts lived = Fields.laid(text);
                StileAccounts told = Fields.laid(text);
                for (int n = 1; n <= 12; n++) {
                    liveOn(lived, z, n - 1);
                    Due.is("credit of year(" + z + ", " + n + ") of " + text, told.year(z, n, 0), lived.count(6));
                    Due.is("broken of year(" + z + ", " + n + ") of " + text, told.year(z, n, 1), lived.count(4));
                }
                Due.is("a year wears nothing", told.count(5), 0);
                Due.is("a year is no treads", told.count(3), 0);
            }
        }
        StileAccounts x = new StileAccounts();
        Due.is("as told first", x.year(5, 60, 0), 49);
        Due.is("as told first", x.year(5, 60, 1), 4);
        Fields.treads(x, 1, 1);
        Fields.sands(x, 4, 6);
        Due.is("from now on: draw 1 is of walker 1, at 1, over the lower of 0 and 1", x.year(0, 1, 0), 4);
        Due.is("from now on: what is broken", x.year(0, 1, 1), 1);
        String before = Fields.standing(x);
        int[][] bad = {{-1, 1, 0}, {10000, 1, 0}, {0, 0, 0}, {0, -1, 0}, {0, 61, 0}, {0, 1, -1}, {0, 1, 2}, {MIN, MAX, MIN}};
        for (int[] b : bad) {
            Due.is("year(" + b[0] + ", " + b[1] + ", " + b[2] + ")", x.year(b[0], b[1], b[2]), BAD);
        }
        Fields.same("year", x, before);
    }

    private static void promise25Keep() {
        StileAccounts x = new StileAccounts();
        Due.is("keep", x.keep(), 1);
        Fields.treads(x, 0, 0);
        Due.is("keep again", x.keep(), 2);
        Due.is("can be undone still", x.count(8), 1);
        Fields.treads(x, 0, 0);
        String before = Fields.standing(x);
        Due.is("the third", x.keep(), FULL);
        Due.is("the third again", x.keep(), FULL);
        Fields.same("keep", x, before);
        Due.is("undo", x.undo(), 1);
        Due.is("kept is not undone", x.count(9), 2);
        Due.is("back", x.back(), 1);
        Due.is("keep anew", x.keep(), 2);
    }

    private static void promise26Back() {
        StileAccounts x = new StileAccounts();
        Due.is("nothing kept", x.back(), NO);
        Fields.treads(x, 0, 0, 1);
        x.sand(4);
        x.keep();
        String first = withoutUndone(x);
        Fields.treads(x, 0, 2);
        x.replace(0);
        x.keep();
        String second = withoutUndone(x);
        Fields.treads(x, 1, 2, 3);
        x.sand(1);
        x.see(2, 9);
        x.see(2, 10);
        Fields.write(x, "w0,0,1;x");
        Due.is("back", x.back(), 1);
        Due.holds("as kept last", withoutUndone(x).equals(second));
        Due.is("seen stay", x.count(7), 2);
        Due.is("letters stay", x.count(10), 8);
        Due.is("fault stays", x.fault(), 7);
        Due.is("kept", x.count(9), 1);
        Due.is("nothing is undone", x.count(8), 0);
        Due.is("undo", x.undo(), NO);
        x.sand(0);
        x.forget();
        Due.is("back again", x.back(), 0);
        Due.holds("as kept first", withoutUndone(x).equals(first));
        Due.is("worn", x.stile(4, 3), 5);
        Due.is("treads", x.count(3), 2);
        Due.is("undo again", x.undo(), NO);
        Due.is("seen stay forgotten", x.count(7), 0);
        String before = Fields.standing(x);
        Due.is("the third", x.back(), NO);
        Fields.same("back", x, before);
        Due.is("on from there", x.tread(0, 2), 3);
        Due.is("can be undone", x.undo(), 0);
        x.keep();
        Due.is("lay", x.wipe(), 8);
        Fields.write(x, "w0,0,1;");
        x.lay();
        Due.is("kept of another text", x.back(), NO);
    }

    /** 8 fields, 9 stiles, 4 walkers: the last of all rows is used. */
    private static void promisesOfTheMost() {
        StileAccounts x = Fields.laid(NINE_STILES + FOUR_WALKERS + "l10;");
        Due.is("way", x.way(0, 7, 1), 7);
        Due.is("way over the last", x.way(0, 2, 1), 8);
        Due.is("farthest", x.way(1, 5, 0), 4);
        Due.is("fresh", x.fresh(0), 15);
        Due.is("by how much", x.fresh(1), 7);
        Due.is("drunk at the last field", x.drunk(0, 7, 1, 0, 0), 0);
        Due.is("drunk over the last stile", x.drunk(0, 2, 1, 0, 0), 1);
        drunkIs(x, new int[] {3, 7, 8, 5}, 13, 256);
        Due.is("year", x.year(9999, 60, 1), 4);
        Due.is("year", x.year(9999, 60, 0), 48);
        Fields.treads(x, 0, 8);
        Fields.treads(x, 3, 3, 4, 5, 6, 7, 8);
        Due.is("even", x.even(3), 6);
        Due.is("measure", x.measure(0), 256);
        Due.is("whose", x.whose(8), 15);
        Due.is("lasts", x.lasts(8, 0), 0);
        Due.is("broken", x.count(4), 1);
        Due.is("worn", x.count(5), 9 * 4 + 10);
        Due.is("richest", x.richest(), 0);
        Due.is("account", x.account(3, 8), 1001);
        Due.is("replace", x.replace(8), 10);
        Due.is("undo", x.undo(), 7);
        Due.is("account again", x.account(3, 8), 1001);
    }

    private static void promise27Count() {
        StileAccounts x = Fields.laid("f3;s0,0,1;s1,1,2;s2,2,0;w0,0,5;w1,0,2;l20;");
        Fields.treads(x, 0, 0, 1, 2);
        Fields.treads(x, 1, 0, 1, 2);
        Fields.sands(x, 2, 4);
        x.see(0, 5);
        x.see(0, 5);
        x.keep();
        int[] counts = {3, 3, 2, 6, 1, 7 + 14 + 20, 9, 2, 8, 1, 42};
        for (int what = 0; what <= 10; what++) {
            Due.is("count(" + what + ")", x.count(what), counts[what]);
        }
        Fields.treads(x, 0, 0);
        Due.is("treads", x.count(3), 7);
        x.undo();
        Due.is("treads undone", x.count(3), 6);
        Fields.treads(x, 0, 0, 0);
        x.back();
        Due.is("treads kept", x.count(3), 6);
        Due.is("worn kept", x.count(5), 41);
        Fields.treads(x, 1, 0, 0);
        Fields.sands(x, 0, 1);
        Due.is("worn by 16 of 20", x.count(4), 1);
        Fields.sands(x, 0, 1);
        Due.is("worn by 21 of 20", x.count(4), 2);
        int[] bad = {-1, 11, MIN, MAX};
        for (int what : bad) {
            Due.is("count(" + what + ")", x.count(what), BAD);
        }
        StileAccounts most = Fields.laid(NINE_STILES + FOUR_WALKERS);
        Due.is("8 fields", most.count(0), 8);
        Due.is("9 stiles", most.count(1), 9);
        Due.is("4 walkers", most.count(2), 4);
        StileAccounts least = Fields.laid("f1;w0,0,1;");
        Due.is("1 field", least.count(0), 1);
        Due.is("no stile", least.count(1), 0);
        Due.is("1 walker", least.count(2), 1);
    }
}
