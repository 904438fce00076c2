import java.util.ArrayList;
import java.util.List;

/**
 * What each call changes, and that it changes nothing else: "nothing changes then" of what is refused, nothing at all
 * by what only tells, and by each other call just what it tells; where all is full, where there is room, where
 * nothing is undone or kept.
 */
public final class NothingElseTest {
    private static final int BAD = StileAccounts.BAD;
    private static final int NO = StileAccounts.NO;
    private static final int FULL = StileAccounts.FULL;
    private static final String PLAN = "f8;f8;f8;s0,0,1;s1,1,2;s2,2,3;s3,3,4;s0,4,5;s1,5,6;s0,6,7;s0,7,0;s0,0,2;"
        + "w0,0,1;w1,1,2;w2,2,3;w3,3,9;l30;";
    private static final int[][] SEEN = {{1, 6}, {0, 2}, {8, 6}, {8, 18}, {2, 5}, {4, 9}};
    private static final Bounds.Call NOTHING = x -> 0;
    private static final Whole BRIMFUL = Whole.of(NothingElseTest::brimful, NOTHING);
    private static final Whole ROOMY = Whole.of(NothingElseTest::roomy, NOTHING);
    private static final Whole NEW = Whole.of(StileAccounts::new, NOTHING);

    private static int told;

    public static void main(String[] args) {
        asTheyAreMeant();
        toldByNumbers();
        toldOfAll();
        toldOfWays();
        toldOfChances();
        refusedAsBad();
        refusedAsThingsStand();
        refusedAsFull();
        treadsChange();
        replacingChanges();
        sandingChanges();
        undoingChanges();
        keepingChanges();
        gettingBackChanges();
        seeingChanges();
        forgettingChanges();
        writingChanges();
        wipingChanges();
        layingChanges();
        Due.holds("calls that only tell: " + told, told > 1000);
        Due.end();
    }

    // ---- objects to call

    /** The text is longer than what was laid of it; all that comes behind it is no writing. */
    private static StileAccounts laid(String more) {
        StileAccounts x = Fields.laid(PLAN);
        Fields.write(x, more);
        return x;
    }

    /** Eight changes, all unlike. */
    private static void eightMore(StileAccounts x) {
        Fields.treads(x, 0, 1);
        Fields.sands(x, 6, 4);
        x.replace(5);
        Fields.treads(x, 3, 8);
        Fields.treads(x, 2, 8);
    }

    private static StileAccounts brimfulBut(String lastLetters) {
        StileAccounts x = laid("l25;".repeat(23) + lastLetters);
        Fields.treads(x, 3, 3, 4, 5, 6, 7);
        Fields.treads(x, 1, 1);
        Fields.sands(x, 2, 6);
        Fields.sands(x, 7, 4);
        x.keep();
        Fields.treads(x, 2, 8);
        Fields.treads(x, 0, 0);
        x.keep();
        x.sand(4);
        eightMore(x);
        for (int[] one : SEEN) {
            x.see(one[0], one[1]);
        }
        return x;
    }

    /** 8 can be undone, 2 are kept, 6 are seen, there are 200 letters; one stile is broken, two by one less. */
    private static StileAccounts brimful() {
        return brimfulBut("l25;");
    }

    private static StileAccounts by199Letters() {
        return brimfulBut("l25");
    }

    private static StileAccounts faulty() {
        return brimfulBut("l25:");
    }

    private static StileAccounts walkerless() {
        StileAccounts x = brimful();
        x.wipe();
        Fields.write(x, "f3;s0,0,1;");
        return x;
    }

    /** All as in the brimful one, but nothing can be undone; it stands unlike what is kept. */
    private static StileAccounts notUndone() {
        StileAccounts x = brimful();
        for (int i = 0; i < 8; i++) {
            x.undo();
        }
        return x;
    }

    /** All as in the brimful one, but nothing is kept. */
    private static StileAccounts notKept() {
        StileAccounts x = brimful();
        x.back();
        x.back();
        Fields.treads(x, 2, 8);
        Fields.treads(x, 0, 0);
        eightMore(x);
        return x;
    }

    /** All as in the brimful one, but nothing is seen. */
    private static StileAccounts notSeen() {
        StileAccounts x = brimful();
        x.forget();
        return x;
    }

    /** 5 can be undone, 1 is kept, 3 are seen, there are 108 letters. */
    private static StileAccounts roomy() {
        StileAccounts x = laid("l25;");
        Fields.treads(x, 3, 3, 4, 5);
        x.keep();
        Fields.treads(x, 0, 0);
        x.sand(2);
        for (int i = 0; i < 3; i++) {
            x.see(SEEN[i][0], SEEN[i][1]);
        }
        return x;
    }

    private static void asTheyAreMeant() {
        countsAre("brimful", brimful(), 8, 6, 8, 2, 200);
        countsAre("by 199 letters", by199Letters(), 8, 6, 8, 2, 199);
        countsAre("faulty", faulty(), 8, 6, 8, 2, 200);
        countsAre("walkerless", walkerless(), 8, 6, 8, 2, 10);
        countsAre("not undone", notUndone(), 8, 6, 0, 2, 200);
        countsAre("not kept", notKept(), 8, 6, 8, 0, 200);
        countsAre("not seen", notSeen(), 8, 0, 8, 2, 200);
        countsAre("roomy", roomy(), 8, 3, 5, 1, 108);
        StileAccounts x = brimful();
        Due.is("one is broken", x.count(4), 1);
        Due.is("one is nearly broken", x.stile(7, 3), 29);
        Due.is("one is nearly broken then", notUndone().stile(7, 3), 29);
        Due.is("no two that can be undone are alike", distinct(BRIMFUL.undone), 8);
        Due.is("no two that are kept are alike", distinct(BRIMFUL.kept), 2);
    }

    private static void countsAre(String of, StileAccounts x, int fields, int seen, int undone, int kept, int letters) {
        Due.is("fields, " + of, x.count(0), fields);
        Due.is("seen, " + of, x.count(7), seen);
        Due.is("undone, " + of, x.count(8), undone);
        Due.is("kept, " + of, x.count(9), kept);
        Due.is("letters, " + of, x.count(10), letters);
    }

    private static long distinct(List<String> all) {
        return all.stream().distinct().count();
    }

    // ---- what stays

    private static void same(String call, Whole is, Whole was) {
        changeIs(call, is, was, "");
        Due.holds(call + " changes no ways", is.ways.equals(was.ways));
        undoneStays(call, is, was);
        keptStays(call, is, was);
        textStays(call, is, was);
    }

    private static void undoneStays(String call, Whole is, Whole was) {
        Due.holds(call + " changes nothing that can be undone", is.undone.equals(was.undone));
    }

    private static void keptStays(String call, Whole is, Whole was) {
        Due.holds(call + " changes nothing that is kept", is.kept.equals(was.kept));
    }

    private static void textStays(String call, Whole is, Whole was) {
        Due.holds(call + " changes nothing of the text", is.laid.equals(was.laid));
    }

    private static void canBeUndone(String call, Whole is, Whole was) {
        List<String> due = new ArrayList<>(was.undone);
        due.add(0, was.glance);
        Due.holds(call + " is the first to be undone, of 8 at most", is.undone.equals(due.subList(0, Math.min(8, due.size()))));
    }

    private static void changeIs(String call, Whole is, Whole was, String due) {
        String change = is.changesFrom(was);
        Due.holds(call + " changes [" + change + "], due is [" + due + "]", change.equals(due));
    }

    // ---- calls that only tell

    private static void tells(String call, Bounds.Call asked) {
        told++;
        same(call + ", brimful,", Whole.of(NothingElseTest::brimful, asked), BRIMFUL);
        same(call + ", roomy,", Whole.of(NothingElseTest::roomy, asked), ROOMY);
        same(call + ", new,", Whole.of(StileAccounts::new, asked), NEW);
        Due.holds(call + " is told", asked.on(brimful()) != BAD);
    }

    // Promises 6, 7, 8, 21, 27
    private static void toldByNumbers() {
        for (int s = 0; s < 9; s++) {
            int stile = s;
            for (int what = 0; what <= 4; what++) {
                int of = what;
                tells("stile " + s + " " + what, x -> x.stile(stile, of));
            }
            tells("whose " + s, x -> x.whose(stile));
            for (int w = 0; w < 4; w++) {
                int walker = w;
                tells("account " + w + " " + s, x -> x.account(walker, stile));
            }
        }
        for (int w = 0; w < 4; w++) {
            int walker = w;
            for (int what = 0; what <= 5; what++) {
                int of = what;
                tells("walker " + w + " " + what, x -> x.walker(walker, of));
            }
        }
    }

    // Promises 4, 15, 16, 18, 27
    private static void toldOfAll() {
        tells("fault", StileAccounts::fault);
        same("fault, faulty,", Whole.of(NothingElseTest::faulty, StileAccounts::fault), Whole.of(NothingElseTest::faulty, NOTHING));
        tells("richest", StileAccounts::richest);
        for (int what = 0; what <= 1; what++) {
            int of = what;
            tells("measure " + what, x -> x.measure(of));
            tells("fresh " + what, x -> x.fresh(of));
        }
        for (int what = 0; what <= 10; what++) {
            int of = what;
            tells("count " + what, x -> x.count(of));
        }
    }

    // Promises 13, 14, 17, 22
    private static void toldOfWays() {
        for (int w = 0; w < 4; w++) {
            int walker = w;
            tells("even " + w, x -> x.even(walker));
            for (int f = 0; f < 8; f++) {
                int field = f;
                tells("way " + w + " " + f, x -> x.way(walker, field, 0));
                tells("first of way " + w + " " + f, x -> x.way(walker, field, 1));
            }
            for (int s = 0; s < 9; s++) {
                int stile = s;
                tells("lasts " + s + " " + w, x -> x.lasts(stile, walker));
                for (int v = 0; v <= 999; v += 333) {
                    int wear = v;
                    tells("often " + w + " " + s + " " + v, x -> x.often(walker, stile, wear));
                }
            }
        }
    }

    // Promises 23, 24
    private static void toldOfChances() {
        for (int w = 0; w < 4; w++) {
            int walker = w;
            for (int f = 0; f < 8; f++) {
                int field = f;
                for (int n = 0; n <= 8; n += 4) {
                    int treads = n;
                    for (int ofTen = 0; ofTen <= 10; ofTen += 5) {
                        int x10 = ofTen;
                        String call = "drunk " + w + " " + f + " " + n + " " + ofTen;
                        tells(call + " above", x -> x.drunk(walker, field, treads, x10, 0));
                        tells(call + " below", x -> x.drunk(walker, field, treads, x10, 1));
                    }
                }
            }
        }
        for (int z = 0; z <= 9999; z += 1111) {
            int year = z;
            for (int n : new int[] {1, 9, 60}) {
                tells("year " + z + " of " + n, x -> x.year(year, n, 0));
                tells("broken, year " + z + " of " + n, x -> x.year(year, n, 1));
            }
        }
    }

    // ---- calls that are refused: "nothing changes then"

    private static void refused(String call, Bounds.Made made, int due, Bounds.Call asked) {
        Due.is(call, asked.on(made.one()), due);
        same(call, Whole.of(made, asked), Whole.of(made, NOTHING));
    }

    private static void bad(String call, Bounds.Call asked) {
        refused(call + ", brimful,", NothingElseTest::brimful, BAD, asked);
        refused(call + ", roomy,", NothingElseTest::roomy, BAD, asked);
        refused(call + ", new,", StileAccounts::new, BAD, asked);
    }

    // "BAD: a number is none that is told .. nothing changes then"
    private static void refusedAsBad() {
        for (int none : new int[] {-1, 9, 1000}) {
            bad("write", x -> x.write(none));
            bad("stile of none", x -> x.stile(none, 0));
            bad("what of a stile", x -> x.stile(0, none));
            bad("walker of none", x -> x.walker(none, 0));
            bad("what of a walker", x -> x.walker(0, none));
            bad("account of no walker", x -> x.account(none, 0));
            bad("account of no stile", x -> x.account(0, none));
            bad("tread of no walker", x -> x.tread(none, 0));
            bad("tread over no stile", x -> x.tread(0, none));
            bad("replace", x -> x.replace(none));
            bad("sand", x -> x.sand(none));
            bad("way of no walker", x -> x.way(none, 0, 0));
            bad("way to no field", x -> x.way(0, none, 0));
            bad("what of a way", x -> x.way(0, 0, none));
            bad("even", x -> x.even(none));
            bad("measure", x -> x.measure(none));
            bad("fresh", x -> x.fresh(none));
            bad("lasts of no stile", x -> x.lasts(none, 0));
            bad("lasts for no walker", x -> x.lasts(0, none));
            bad("see of no stile", x -> x.see(none, 0));
            bad("whose", x -> x.whose(none));
            bad("often of no walker", x -> x.often(none, 0, 0));
            bad("often over no stile", x -> x.often(0, none, 0));
            bad("drunk of no walker", x -> x.drunk(none, 0, 0, 0, 0));
            bad("drunk in no field", x -> x.drunk(0, none, 0, 0, 0));
            bad("treads of a drunkard", x -> x.drunk(0, 0, none, 0, 0));
            bad("part of a drunkard", x -> x.drunk(0, 0, 0, 0, none));
            bad("what of a year", x -> x.year(0, 1, none));
        }
        for (int none : new int[] {-1, 1000, 10000}) {
            bad("see by", x -> x.see(0, none));
            bad("often by", x -> x.often(0, 0, none));
            bad("x of a drunkard", x -> x.drunk(0, 0, 0, none, 0));
            bad("treads of a year", x -> x.year(0, none, 0));
            bad("count", x -> x.count(none));
        }
        bad("year ahead of 0", x -> x.year(-1, 60, 0));
        bad("year behind 9999", x -> x.year(10000, 60, 0));
    }

    // "NO: not as things stand .. nothing changes then"
    private static void refusedAsThingsStand() {
        for (int w = 0; w < 4; w++) {
            int walker = w;
            for (int s = 0; s < 9; s++) {
                int stile = s;
                if (brimful().tread(w, s) == NO) {
                    refused("tread of " + w + " over " + s, NothingElseTest::brimful, NO, x -> x.tread(walker, stile));
                }
                if (roomy().tread(w, s) == NO) {
                    refused("tread of " + w + " over " + s, NothingElseTest::roomy, NO, x -> x.tread(walker, stile));
                }
            }
        }
        refused("tread over a broken one", NothingElseTest::brimful, NO, x -> x.tread(0, 2));
        refused("tread from elsewhere", NothingElseTest::brimful, NO, x -> x.tread(0, 7));
        refused("lay with a fault", NothingElseTest::faulty, NO, StileAccounts::lay);
        refused("lay without a walker", NothingElseTest::walkerless, NO, StileAccounts::lay);
        refused("lay of no text", StileAccounts::new, NO, StileAccounts::lay);
        refused("undo", NothingElseTest::notUndone, NO, StileAccounts::undo);
        refused("undo of nothing", StileAccounts::new, NO, StileAccounts::undo);
        refused("back", NothingElseTest::notKept, NO, StileAccounts::back);
        refused("back to nothing", StileAccounts::new, NO, StileAccounts::back);
    }

    // "FULL .. nothing changes then"
    private static void refusedAsFull() {
        for (int letter : new int[] {32, ';', '0', 'l', 126}) {
            refused("write " + letter, NothingElseTest::brimful, FULL, x -> x.write(letter));
            refused("write " + letter, NothingElseTest::faulty, FULL, x -> x.write(letter));
        }
        refused("keep", NothingElseTest::brimful, FULL, StileAccounts::keep);
        refused("keep, nothing undone", NothingElseTest::notUndone, FULL, StileAccounts::keep);
        refused("see", NothingElseTest::brimful, FULL, x -> x.see(0, 0));
        refused("see the last", NothingElseTest::brimful, FULL, x -> x.see(8, 999));
        refused("see, nothing kept", NothingElseTest::notKept, FULL, x -> x.see(1, 6));
    }

    // ---- calls that change something

    private static void undoable(String call, Bounds.Made made, Whole was, Bounds.Call asked, String due) {
        Whole is = Whole.of(made, asked);
        changeIs(call, is, was, due);
        canBeUndone(call, is, was);
        keptStays(call, is, was);
        textStays(call, is, was);
    }

    private static void inBrimful(String call, Bounds.Call asked, String due) {
        undoable(call + ", brimful", NothingElseTest::brimful, BRIMFUL, asked, due);
    }

    private static void inRoomy(String call, Bounds.Call asked, String due) {
        undoable(call + ", roomy", NothingElseTest::roomy, ROOMY, asked, due);
    }

    // Promise 9: where he is, what it is worn by, his CREDIT, his ACCOUNT of it, his latest TREAD
    private static void treadsChange() {
        inBrimful("tread of a plain one over an oak", x -> x.tread(0, 8),
            "all credit 6>7; all treads 11>12; all worn 130>131; stile 8 worn 21>22; walker 0 account 8 1000>999; "
            + "walker 0 credit 2>3; walker 0 field 2>0; walker 0 latest 1>8");
        inBrimful("tread of a tall one over an elm", x -> x.tread(1, 1),
            "all credit 6>8; all treads 11>12; all worn 130>134; stile 1 worn 6>10; walker 1 account 1 1001>1000; "
            + "walker 1 credit 2>4; walker 1 field 2>1; walker 1 level 0>1");
        inBrimful("tread of a sander over an elm", x -> x.tread(2, 1),
            "all credit 6>7; all treads 11>12; all worn 130>142; stile 1 worn 6>18; walker 2 account 1 1000>999; "
            + "walker 2 credit 2>3; walker 2 field 2>1; walker 2 latest 8>1; walker 2 level 1>0");
        inBrimful("tread of a carried one by which an oak breaks", x -> x.tread(3, 8),
            "all broken 1>2; all treads 11>12; all worn 130>139; stile 8 broken 0>1; stile 8 worn 21>30; "
            + "walker 3 account 8 1001>1000; walker 3 field 2>0");
        inRoomy("tread of a carried one over an oak", x -> x.tread(3, 6),
            "all treads 4>5; all undone 5>6; all worn 33>42; stile 6 worn 0>9; walker 3 account 6 1000>1001; "
            + "walker 3 field 6>7; walker 3 latest 5>6");
        inRoomy("tread of a tall one over an oak", x -> x.tread(1, 0),
            "all credit 1>3; all treads 4>5; all undone 5>6; all worn 33>35; stile 0 worn 1>3; walker 1 account 0 1000>999; "
            + "walker 1 credit 0>2; walker 1 field 1>0; walker 1 latest -4>0; walker 1 level 1>0");
        inRoomy("tread of a sander over a stone", x -> x.tread(2, 2),
            "all credit 1>2; all treads 4>5; all undone 5>6; walker 2 account 2 1000>1001; walker 2 credit 0>1; "
            + "walker 2 field 2>3; walker 2 latest -4>2; walker 2 level 1>0");
    }

    // Promise 10: what it is worn by, all ACCOUNTS of it
    private static void replacingChanges() {
        inBrimful("replacing a broken stone", x -> x.replace(2),
            "all broken 1>0; all worn 130>100; stile 2 broken 1>0; stile 2 worn 30>0");
        inBrimful("replacing an oak of two", x -> x.replace(8),
            "all worn 130>109; stile 8 worn 21>0; walker 3 account 8 1001>1000");
        inBrimful("replacing an elm of two", x -> x.replace(1),
            "all worn 130>124; stile 1 worn 6>0; walker 0 account 1 1001>1000; walker 1 account 1 1001>1000; walker 1 level 0>1");
        inBrimful("replacing a gate", x -> x.replace(3), "walker 3 account 3 1001>1000");
        inBrimful("replacing what is new", x -> x.replace(5), "");
        inRoomy("replacing an elm", x -> x.replace(5),
            "all undone 5>6; all worn 33>15; stile 5 worn 18>0; walker 3 account 5 1001>1000");
    }

    // Promise 11: what it is worn by
    private static void sandingChanges() {
        inBrimful("sanding what breaks", x -> x.sand(7), "all broken 1>2; all worn 130>135; stile 7 broken 0>1; stile 7 worn 29>34");
        inBrimful("sanding what is broken", x -> x.sand(2), "all worn 130>135; stile 2 worn 30>35");
        inRoomy("sanding a gate", x -> x.sand(3), "all undone 5>6; all worn 33>38; stile 3 worn 0>5");
        inRoomy("sanding an elm", x -> x.sand(1), "all undone 5>6; all worn 33>38; stile 1 worn 0>5");
    }

    // Promise 12: all but what is SEEN, KEPT, THE TEXT is as it was ahead of it
    private static void undoingChanges() {
        undone("undo of a tread, brimful", NothingElseTest::brimful, BRIMFUL,
            "all credit 6>5; all treads 11>10; all undone 8>7; all worn 130>124; stile 8 worn 21>15; "
            + "walker 2 account 8 1000>999; walker 2 credit 2>1; walker 2 field 2>0; walker 2 level 1>0");
        undone("undo of sanding, roomy", NothingElseTest::roomy, ROOMY, "all undone 5>4; all worn 33>28; stile 2 worn 5>0");
    }

    private static void undone(String call, Bounds.Made made, Whole was, String due) {
        Whole is = Whole.of(made, StileAccounts::undo);
        changeIs(call, is, was, due);
        Due.holds(call + ": as it was", is.glance.equals(was.undone.get(0)));
        Due.holds(call + ": all but one are left", is.undone.equals(was.undone.subList(1, was.undone.size())));
        keptStays(call, is, was);
        textStays(call, is, was);
    }

    // Promise 25: what is KEPT alone
    private static void keepingChanges() {
        kept("keep, roomy", NothingElseTest::roomy, "all kept 1>2");
        kept("keep, nothing kept", NothingElseTest::notKept, "all kept 0>1");
        kept("keep, new", StileAccounts::new, "all kept 0>1");
    }

    private static void kept(String call, Bounds.Made made, String due) {
        Whole was = Whole.of(made, NOTHING);
        Whole is = Whole.of(made, StileAccounts::keep);
        changeIs(call, is, was, due);
        List<String> all = new ArrayList<>(was.kept);
        all.add(0, was.glance);
        Due.holds(call + ": as it stands, ahead of what was kept", is.kept.equals(all));
        undoneStays(call, is, was);
        textStays(call, is, was);
    }

    // Promise 26: all but what is SEEN and THE TEXT; nothing is UNDONE then
    private static void gettingBackChanges() {
        gotBack("back, brimful", NothingElseTest::brimful, BRIMFUL,
            "all credit 6>4; all kept 2>1; all treads 11>8; all undone 8>0; all worn 130>106; "
            + "stile 1 worn 6>4; stile 4 worn 14>9; stile 5 worn 0>18; stile 6 worn 29>9; stile 8 worn 21>6; "
            + "walker 0 account 1 1001>1000; walker 0 credit 2>1; walker 0 field 2>1; walker 0 latest 1>0; "
            + "walker 2 account 8 1000>999; walker 2 credit 2>1; walker 2 field 2>0; walker 2 level 1>0; "
            + "walker 3 account 5 1000>1001; walker 3 account 8 1001>1000; walker 3 field 2>0; walker 3 latest 8>7");
        gotBack("back, roomy", NothingElseTest::roomy, ROOMY,
            "all credit 1>0; all kept 1>0; all treads 4>3; all undone 5>0; all worn 33>27; stile 0 worn 1>0; stile 2 worn 5>0; "
            + "walker 0 account 0 1001>1000; walker 0 credit 1>0; walker 0 field 1>0; walker 0 latest 0>-4; walker 0 level 0>1");
    }

    private static void gotBack(String call, Bounds.Made made, Whole was, String due) {
        Whole is = Whole.of(made, StileAccounts::back);
        changeIs(call, is, was, due);
        Due.holds(call + ": as it was kept", is.glance.equals(was.kept.get(0)));
        Due.holds(call + ": all but one are left", is.kept.equals(was.kept.subList(1, was.kept.size())));
        Due.holds(call + ": nothing can be undone", is.undone.isEmpty());
        textStays(call, is, was);
    }

    // ---- what was seen, and the text

    private static void butTheText(String call, Bounds.Made made, Whole was, Bounds.Call asked, String due) {
        Whole is = Whole.of(made, asked);
        changeIs(call, is, was, due);
        Due.holds(call + " changes no ways", is.ways.equals(was.ways));
        undoneStays(call, is, was);
        keptStays(call, is, was);
    }

    private static void butWhatWasSeen(String call, Bounds.Made made, Whole was, Bounds.Call asked, String due) {
        butTheText(call, made, was, asked, due);
        textStays(call, Whole.of(made, asked), was);
    }

    // Promise 19: what was SEEN alone, of that STILE alone
    private static void seeingChanges() {
        butWhatWasSeen("see what all can", NothingElseTest::roomy, ROOMY, x -> x.see(3, 0), "all seen 3>4");
        butWhatWasSeen("see what few can", NothingElseTest::roomy, ROOMY, x -> x.see(4, 9), "all seen 3>4; stile 4 whose 15>9");
        butWhatWasSeen("see the first, all else full", NothingElseTest::notSeen, Whole.of(NothingElseTest::notSeen, NOTHING),
            x -> x.see(4, 9), "all seen 0>1; stile 4 whose 15>9");
        butWhatWasSeen("see what nobody can", NothingElseTest::roomy, ROOMY, x -> x.see(2, 5), "all seen 3>4; stile 2 whose 15>0");
    }

    // Promise 20: what was SEEN alone
    private static void forgettingChanges() {
        butWhatWasSeen("forget six", NothingElseTest::brimful, BRIMFUL, StileAccounts::forget,
            "all seen 6>0; stile 0 whose 3>15; stile 1 whose 1>15; stile 2 whose 0>15; stile 4 whose 9>15; stile 8 whose 7>15");
        butWhatWasSeen("forget three", NothingElseTest::roomy, ROOMY, StileAccounts::forget,
            "all seen 3>0; stile 0 whose 3>15; stile 1 whose 1>15; stile 8 whose 7>15");
        butWhatWasSeen("forget nothing", StileAccounts::new, NEW, StileAccounts::forget, "");
    }

    // Promise 2: THE TEXT alone
    private static void writingChanges() {
        butTheText("write", NothingElseTest::roomy, ROOMY, x -> x.write('s'), "all letters 108>109; fault -4>108");
        butTheText("write the 200th", NothingElseTest::by199Letters, Whole.of(NothingElseTest::by199Letters, NOTHING),
            x -> x.write(';'), "all letters 199>200; fault 196>-4");
        butTheText("write the first", StileAccounts::new, NEW, x -> x.write(32), "all letters 0>1; fault -4>0");
    }

    // Promise 3: THE TEXT alone
    private static void wipingChanges() {
        butTheText("wipe 200", NothingElseTest::brimful, BRIMFUL, StileAccounts::wipe, "all letters 200>0");
        butTheText("wipe 108", NothingElseTest::roomy, ROOMY, StileAccounts::wipe, "all letters 108>0");
        butTheText("wipe nothing", StileAccounts::new, NEW, StileAccounts::wipe, "");
    }

    // Promise 5: all is as in a new object in which THE TEXT is laid first
    private static void layingChanges() {
        Whole first = Whole.of(() -> Fields.laid(PLAN + "l25;".repeat(24)), NOTHING);
        same("lay, brimful, as at first: it", Whole.of(NothingElseTest::brimful, StileAccounts::lay), first);
        same("lay, nothing undone, as at first: it", Whole.of(NothingElseTest::notUndone, StileAccounts::lay), first);
        same("lay, nothing kept, as at first: it", Whole.of(NothingElseTest::notKept, StileAccounts::lay), first);
        Whole other = Whole.of(() -> Fields.laid(PLAN + "l25;"), NOTHING);
        same("lay, roomy, as at first: it", Whole.of(NothingElseTest::roomy, StileAccounts::lay), other);
    }
}
