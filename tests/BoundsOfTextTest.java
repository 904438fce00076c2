/**
 * Each bound of THE TEXT that "What it is" names, and those of promises 1 to 5 and of the terms behind them.
 * The remark ahead of each test is the sentence that it holds.
 */
public final class BoundsOfTextTest {
    private static final int BAD = StileAccounts.BAD;
    private static final int NO = StileAccounts.NO;
    private static final int FULL = StileAccounts.FULL;
    private static final int NONE = StileAccounts.NONE;
    private static final String FIVE_STILES = "s0,0,1;s1,1,2;s2,2,3;s3,3,4;s0,4,0;";
    private static final String NINE_STILES = "s0,0,1;s1,1,2;s2,2,3;s3,3,4;s0,4,0;s1,0,2;s2,0,3;s3,1,3;s0,1,4;";
    private static final String FOUR_WALKERS = "w0,0,1;w1,1,3;w2,2,5;w3,4,9;";

    public static void main(String[] args) {
        newObject();
        writing();
        wiping();
        formOfItems();
        faultsOfFields();
        faultsOfStiles();
        faultsOfWalkers();
        faultsOfLimits();
        placesOfFaults();
        laying();
        Due.end();
    }

    private static void faultIs(String text, int due) {
        Due.is("fault of " + text, Fields.written(text).fault(), due);
    }

    private static int faultIf(boolean isOne, int place) {
        return isOne ? place : NONE;
    }

    // ---- promise 1

    private static void newObject() {
        theConstants();
        atFirstTheTextIsEmpty();
        atFirstNothingIsWorn();
        atFirstTheFirstTextIsLaid();
    }

    // "public static final int BAD = -1, NO = -2, FULL = -3, NONE = -4"
    private static void theConstants() {
        Due.is("BAD", BAD, -1);
        Due.is("NO", NO, -2);
        Due.is("FULL", FULL, -3);
        Due.is("NONE", NONE, -4);
    }

    // Promise 1, with promise 5: what is LAID at first is not in THE TEXT, which is empty
    private static void atFirstTheTextIsEmpty() {
        Due.is("letters at first", new StileAccounts().count(10), 0);
        Due.is("wipe at first", new StileAccounts().wipe(), 0);
        Due.is("the first letter", new StileAccounts().write('f'), 1);
        Due.is("fault at first", new StileAccounts().fault(), NONE);
        Due.is("lay at first", new StileAccounts().lay(), NO);
    }

    // "At first nothing is worn, all CREDIT, all ACCOUNTS are 0"; nothing SEEN, UNDONE, KEPT
    private static void atFirstNothingIsWorn() {
        StileAccounts x = new StileAccounts();
        for (int what = 3; what <= 10; what++) {
            Due.is("count(" + what + ") at first", x.count(what), 0);
        }
        for (int s = 0; s < 7; s++) {
            Due.is("stile " + s + " is worn by", x.stile(s, 3), 0);
            Due.is("stile " + s + " is broken", x.stile(s, 4), 0);
            Due.is("whose is " + s, x.whose(s), 15);
            for (int w = 0; w < 4; w++) {
                Due.is("account of " + w + " and " + s, x.account(w, s), 1000);
            }
        }
        for (int w = 0; w < 4; w++) {
            Due.is("credit of " + w, x.walker(w, 3), 0);
            Due.is("level is " + w, x.walker(w, 4), 1);
            Due.is("latest of " + w, x.walker(w, 5), NONE);
        }
        Due.is("undo at first", x.undo(), NO);
        Due.is("back at first", x.back(), NO);
        Due.is("forget at first", x.forget(), 0);
    }

    // "at first f6;s0,0,1;s1,1,2;s0,2,3;s2,3,0;s1,1,4;s3,4,5;s0,5,2;w0,0,3;w1,2,4;w2,4,2;w3,5,5;l30;"
    private static void atFirstTheFirstTextIsLaid() {
        StileAccounts laid = Fields.laid(Fields.FIRST);
        Due.is("letters of the first text", laid.wipe(), 84);
        Due.holds("a new object stands as the first text laid",
            Fields.standing(new StileAccounts()).equals(Fields.standing(laid)));
        StileAccounts x = new StileAccounts();
        Fields.sands(x, 3, 5);
        Due.is("worn by 25 of 30", x.stile(3, 4), 0);
        Fields.sands(x, 3, 1);
        Due.is("worn by 30 of 30", x.stile(3, 4), 1);
    }

    // ---- promise 2

    private static void writing() {
        lettersFrom32To126();
        everyLetterStandsAsItIs();
        writeTellsHowLong();
        the200thLetter();
        the201stLetter();
        badAheadOfFull();
        writeLaysNothing();
    }

    // "A letter (32 to 126, as in ASCII)"
    private static void lettersFrom32To126() {
        Bounds.told("write", Fields::lived, 32, 126, StileAccounts::write);
        Due.is("the first letter that is told", new StileAccounts().write(32), 1);
        Due.is("the last letter that is told", new StileAccounts().write(126), 1);
        Due.is("the last that is none below", new StileAccounts().write(31), BAD);
        Due.is("the first that is none above", new StileAccounts().write(127), BAD);
        Due.is("write(0)", new StileAccounts().write(0), BAD);
        Due.is("write(10)", new StileAccounts().write(10), BAD);
    }

    // "as in ASCII": each letter is that of its number
    private static void everyLetterStandsAsItIs() {
        for (int letter = 32; letter <= 126; letter++) {
            StileAccounts x = Fields.written("f");
            Due.is("write(" + letter + ")", x.write(letter), 2);
            x.write(';');
            Due.is("fault with " + letter, x.fault(), faultIf(letter < '1' || letter > '8', 0));
        }
    }

    // "comes behind THE TEXT: how long it is"
    private static void writeTellsHowLong() {
        StileAccounts x = new StileAccounts();
        for (int i = 1; i <= 200; i++) {
            Due.is("letter " + i, x.write(32 + i % 95), i);
        }
        StileAccounts order = Fields.written("l9;l5");
        Due.is("the 6th letter", order.write('0'), 6);
        Due.is("the first letters stand first", order.fault(), 0);
    }

    // "A TEXT is letters (200 at most)": the 200th is one of it
    private static void the200thLetter() {
        StileAccounts x = Fields.written("l10;".repeat(48) + "w0,0,01");
        Due.is("letters", x.count(10), 199);
        Due.is("fault by 199", x.fault(), 192);
        Due.is("lay by 199", x.lay(), NO);
        Due.is("the 200th", x.write(';'), 200);
        Due.is("letters then", x.count(10), 200);
        Due.is("fault by 200", x.fault(), NONE);
        Due.is("lay by 200", x.lay(), 5);
    }

    // Promise 2, "FULL": the 201st letter is refused, nothing changes then
    private static void the201stLetter() {
        Bounds.refused("the 201st letter", Fields::full, FULL, x -> x.write(';'));
        Bounds.refused("the 201st letter, the lowest", Fields::full, FULL, x -> x.write(32));
        Bounds.refused("the 201st letter, the highest", Fields::full, FULL, x -> x.write(126));
        StileAccounts x = Fields.written("l10;".repeat(48) + "w0,0,01;");
        Due.is("the 201st", x.write('x'), FULL);
        Due.is("letters", x.count(10), 200);
        Due.is("no fault behind the 200th", x.fault(), NONE);
        Due.is("lay of 200", x.lay(), 5);
        Due.is("the 201st once more", x.write('x'), FULL);
        Due.is("wipe", x.wipe(), 200);
        Due.is("the first", x.write('x'), 1);
    }

    // "BAD .. FULL. Of several the first in this order, whatever the order at a call"
    private static void badAheadOfFull() {
        Bounds.beyond("write to 200 letters", Fields::full, 32, 126, StileAccounts::write);
    }

    // Promise 2: only THE TEXT is longer
    private static void writeLaysNothing() {
        StileAccounts x = Fields.lived();
        String before = Fields.lying(x);
        Fields.write(x, "w0,0,1;");
        Due.holds("write changes only the text", Fields.lying(x).equals(before));
    }

    // ---- promise 3

    private static void wiping() {
        wipeOfNothing();
        wipeOfOneAndOf200();
        wipeChangesOnlyTheText();
    }

    // "THE TEXT is empty: how long it was", of no letter
    private static void wipeOfNothing() {
        StileAccounts x = new StileAccounts();
        Due.is("wipe of nothing", x.wipe(), 0);
        Due.is("wipe of nothing again", x.wipe(), 0);
        Due.is("letters", x.count(10), 0);
        Due.is("write", x.write('f'), 1);
    }

    // "THE TEXT is empty: how long it was", of one letter and of the most
    private static void wipeOfOneAndOf200() {
        StileAccounts one = Fields.written("x");
        Due.is("wipe of one", one.wipe(), 1);
        Due.is("wipe again", one.wipe(), 0);
        StileAccounts x = Fields.full();
        Due.is("fault of 200", x.fault(), 21);
        Due.is("wipe of 200", x.wipe(), 200);
        Due.is("letters", x.count(10), 0);
        Due.is("fault of what is wiped", x.fault(), NONE);
        Due.is("lay of what is wiped", x.lay(), NO);
        Due.is("write behind it", x.write('w'), 1);
        Due.is("no letter of before is there", x.fault(), 0);
    }

    // Promise 3: nothing else changes
    private static void wipeChangesOnlyTheText() {
        StileAccounts x = Fields.full();
        String before = Fields.lying(x);
        x.wipe();
        Due.holds("wipe changes only the text", Fields.lying(x).equals(before));
        Due.is("undo behind wipe", x.undo(), 7);
        Due.is("back behind wipe", x.back(), 1);
        Due.is("forget behind wipe", x.forget(), 6);
    }

    // ---- promise 4: the form of ITEMS

    private static void formOfItems() {
        noItemIsNoFault();
        itemsStandOneBehindTheOther();
        eachItemIsALetterFirst();
        numbersAreOfOneOrTwoFigures();
        figuresAreNoOtherLetters();
        numbersArePartedBy();
        behindTheLastNumber();
        asManyNumbersAsTold();
        faultChangesNothing();
    }

    // Promise 4, "NONE": there is none, as in a TEXT of no ITEM
    private static void noItemIsNoFault() {
        faultIs("", NONE);
        faultIs("f1;", NONE);
        faultIs("l10;", NONE);
        faultIs("w0,0,1;", NONE);
        faultIs("s0,0,1;", NONE);
    }

    // "ITEMS one behind the other": nothing stands ahead of, between and behind them
    private static void itemsStandOneBehindTheOther() {
        faultIs("f2;s0,0,1;w0,0,1;l10;", NONE);
        for (int letter = 32; letter <= 126; letter++) {
            faultIs((char) letter + "f3;s0,0,1;", 0);
            faultIs("f3;" + (char) letter + "s0,0,1;", 3);
            faultIs("f3;s0,0,1;" + (char) letter, 10);
        }
    }

    // "each a letter": f, s, w, l and no other, neither a capital
    private static void eachItemIsALetterFirst() {
        for (int letter = 32; letter <= 126; letter++) {
            faultIs((char) letter + "5;", faultIf(letter != 'f', 0));
            faultIs((char) letter + "0,1,2;", faultIf(letter != 's' && letter != 'w', 0));
            faultIs((char) letter + "10;", faultIf(letter != 'l', 0));
            faultIs("w0,0,1;" + (char) letter + "0,1,2;", faultIf(letter != 's' && letter != 'w', 7));
        }
        faultIs("5;", 0);
        faultIs(";", 0);
        faultIs("ff5;", 0);
    }

    // "then numbers (one or two figures)": none, one, two, three of them
    private static void numbersAreOfOneOrTwoFigures() {
        faultIs("f;", 0);
        faultIs("f5;", NONE);
        faultIs("f05;", NONE);
        faultIs("f005;", 0);
        faultIs("l10;", NONE);
        faultIs("l010;", 0);
        faultIs("l100;", 0);
        faultIs("s00,01,02;", NONE);
        faultIs("s000,1,2;", 0);
        faultIs("s0,001,2;", 0);
        faultIs("s0,1,002;", 0);
        faultIs("s,1,2;", 0);
        faultIs("s0,,2;", 0);
        faultIs("s0,1,;", 0);
        faultIs("w03,04,09;", NONE);
        faultIs("w003,4,9;", 0);
        faultIs("w3,004,9;", 0);
        faultIs("w3,4,009;", 0);
    }

    // "figures": 0 to 9, not the letters beside them (/ and :), as the first and as the second; no sign ahead of them
    private static void figuresAreNoOtherLetters() {
        for (int letter = 32; letter <= 126; letter++) {
            boolean figure = letter >= '0' && letter <= '9';
            faultIs("l1" + (char) letter + ";", faultIf(!figure, 0));
            faultIs("l" + (char) letter + "1;", faultIf(!figure || letter == '0', 0));
            faultIs("f0" + (char) letter + ";", faultIf(letter < '1' || letter > '8', 0));
            faultIs("w0,0," + (char) letter + ";", faultIf(letter < '1' || letter > '9', 0));
            faultIs("l" + (char) letter + "40;", 0);
            faultIs("s0," + (char) letter + "1,2;", faultIf(letter != '0', 0));
            faultIs("w0,0," + (char) letter + "1;", faultIf(letter != '0', 0));
        }
    }

    // "numbers .. parted by ,"
    private static void numbersArePartedBy() {
        for (int letter = 32; letter <= 126; letter++) {
            faultIs("s0" + (char) letter + "1,2;", faultIf(letter != ',', 0));
            faultIs("w0,1" + (char) letter + "2;", faultIf(letter != ',', 0));
            faultIs("w0,1,2" + (char) letter, faultIf(letter != ';', 0));
        }
        faultIs("s0,,1,2;", 0);
        faultIs("s,0,1,2;", 0);
        faultIs("s0;1,2;", 0);
    }

    // "and a ; behind the last one": missing, a , ahead of it, at the very end of THE TEXT
    private static void behindTheLastNumber() {
        faultIs("f", 0);
        faultIs("f5", 0);
        faultIs("f05", 0);
        faultIs("f5,", 0);
        faultIs("f5,;", 0);
        faultIs("f5;;", 3);
        faultIs("s0,1,2", 0);
        faultIs("s0,1,2,;", 0);
        faultIs("s0,1,2s0,1,2;", 0);
        faultIs("f5;w0,0,1", 3);
        StileAccounts x = Fields.written("f5;w0,0,1");
        x.write(';');
        Due.is("no fault by the ; behind the last one", x.fault(), NONE);
    }

    // "fN", "sK,A,B", "wK,P,G", "lL": one number too few, as many as told, one too many, many too many
    private static void asManyNumbersAsTold() {
        faultIs("f5,5;", 0);
        faultIs("f5,5,5;", 0);
        faultIs("l10,10;", 0);
        faultIs("l10,10,10;", 0);
        faultIs("s0;", 0);
        faultIs("s0,1;", 0);
        faultIs("s0,1,2;", NONE);
        faultIs("s0,1,2,3;", 0);
        faultIs("s0,1,2,3,4;", 0);
        faultIs("w0;", 0);
        faultIs("w0,1;", 0);
        faultIs("w0,1,2;", NONE);
        faultIs("w0,1,2,3;", 0);
        faultIs("s0" + ",1".repeat(99) + ";", 0);
        faultIs("f3;" + "f" + "1,".repeat(98) + ";", 3);
    }

    // Promise 4: FAULT is told, nothing changes
    private static void faultChangesNothing() {
        Bounds.onlyTells("fault", Fields::lived, StileAccounts::fault);
        Bounds.onlyTells("fault of 200 letters", Fields::full, StileAccounts::fault);
        Bounds.onlyTells("fault of no letter", StileAccounts::new, StileAccounts::fault);
    }

    // ---- promise 4: FIELDS

    private static void faultsOfFields() {
        from1To8Fields();
        fiveFieldsWithout();
        noOtherItemAheadOfFields();
        severalItemsOfFields();
    }

    // "fN there are N (1 to 8) FIELDS"
    private static void from1To8Fields() {
        for (int n = 0; n <= 99; n++) {
            faultIs("f" + n + ";", faultIf(n < 1 || n > 8, 0));
        }
        for (int n = 1; n <= 8; n++) {
            StileAccounts x = Fields.laid("f" + n + ";w0," + (n - 1) + ",1;");
            Due.is("fields of f" + n, x.count(0), n);
            Due.is("the last field of f" + n, x.walker(0, 1), n - 1);
            faultIs("f" + n + ";w0," + n + ",1;", 3);
        }
    }

    // "(5 without"
    private static void fiveFieldsWithout() {
        faultIs("w0,4,1;", NONE);
        faultIs("w0,5,1;", 0);
        faultIs("s0,0,4;", NONE);
        faultIs("s0,4,0;", NONE);
        faultIs("s0,0,5;", 0);
        faultIs("s0,5,0;", 0);
        Due.is("fields without", Fields.laid("w0,0,1;").count(0), 5);
        Due.is("lay without", Fields.written("w0,0,1;").lay(), 5);
        StileAccounts x = Fields.laid("f8;w0,7,1;");
        x.wipe();
        Fields.write(x, "w0,0,1;");
        Due.is("fields without, behind 8", x.lay(), 5);
        x.wipe();
        Fields.write(x, "w0,5,1;");
        Due.is("field 5 without, behind 8", x.fault(), 0);
    }

    // "no other ITEM ahead of it but f"
    private static void noOtherItemAheadOfFields() {
        faultIs("s0,0,1;f5;", 7);
        faultIs("w0,0,1;f5;", 7);
        faultIs("l10;f5;", 4);
        faultIs("f5;s0,0,1;f5;", 10);
        faultIs("f5;w0,0,1;f5;", 10);
        faultIs("f5;l10;f5;", 7);
        faultIs("f5;f5;l10;f5;", 10);
        faultIs("f4;f5;", NONE);
        StileAccounts x = Fields.written("l10;f5;");
        Due.is("f behind l", x.fault(), 4);
        x.wipe();
        Fields.write(x, "f5;");
        Due.is("f first in the next text", x.fault(), NONE);
    }

    // "fN there are N FIELDS", of several f: there are as many as the last one tells
    private static void severalItemsOfFields() {
        faultIs("f8;f2;w0,1,1;", NONE);
        faultIs("f8;f2;w0,2,1;", 6);
        faultIs("f2;f8;w0,7,1;", NONE);
        faultIs("f2;f9;w0,1,1;", 3);
        Due.is("fields of f8, f2", Fields.laid("f8;f2;w0,0,1;").count(0), 2);
        Due.is("fields of f2, f8", Fields.laid("f2;f8;w0,0,1;").count(0), 8);
        Due.is("fields of 66 f", Fields.written("f1;".repeat(64) + "w0,0,1;").lay(), 1);
    }

    // ---- promise 4: STILES

    private static void faultsOfStiles() {
        kindsOfStilesFrom0To3();
        stilesBetweenFieldsThatThereAre();
        stilesBetweenUnlikeFields();
        nineStilesAtMost();
        stilesAreNumberedFrom0();
    }

    // "a STILE of KIND K (0 OAK, 1 ELM, 2 STONE, 3 GATE)"
    private static void kindsOfStilesFrom0To3() {
        for (int k = 0; k <= 99; k++) {
            faultIs("s" + k + ",0,1;", faultIf(k > 3, 0));
        }
        for (int k = 0; k <= 3; k++) {
            Due.is("kind", Fields.laid("s" + k + ",0,1;w0,0,1;").stile(0, 0), k);
        }
    }

    // "from FIELD A over to B": such as there are
    private static void stilesBetweenFieldsThatThereAre() {
        for (int n = 1; n <= 8; n++) {
            for (int a = 0; a <= 11; a++) {
                for (int b = 0; b <= 11; b++) {
                    faultIs("f" + n + ";s0," + a + "," + b + ";", faultIf(a >= n || b >= n || a == b, 3));
                }
            }
        }
        faultIs("f8;s0,99,0;", 3);
        faultIs("f8;s0,0,99;", 3);
        StileAccounts x = Fields.laid("f8;s0,7,0;s0,0,7;w0,0,1;");
        Due.is("A of the first", x.stile(0, 1), 7);
        Due.is("B of the first", x.stile(0, 2), 0);
        Due.is("A of the second", x.stile(1, 1), 0);
        Due.is("B of the second", x.stile(1, 2), 7);
    }

    // "from FIELD A over to B (unlike)"
    private static void stilesBetweenUnlikeFields() {
        for (int a = 0; a <= 7; a++) {
            faultIs("f8;s0," + a + "," + a + ";", 3);
        }
        faultIs("f8;s0,7,07;", 3);
        faultIs("f1;s0,0,0;", 3);
        faultIs("s0,0,1;s0,0,1;s0,1,0;", NONE);
    }

    // "a STILE ..; 9 at most"
    private static void nineStilesAtMost() {
        faultIs(FIVE_STILES + "s0,0,1;".repeat(3), NONE);
        faultIs(NINE_STILES, NONE);
        faultIs(NINE_STILES + FOUR_WALKERS + "l10;", NONE);
        faultIs(NINE_STILES + "s0,0,1;", 63);
        faultIs(NINE_STILES + FOUR_WALKERS + "l10;s0,0,1;", 63 + 28 + 4);
        faultIs(NINE_STILES + "s0,0,1;w9,9,9;", 63);
        Due.is("9 stiles", Fields.laid(NINE_STILES + "w0,0,1;").count(1), 9);
        Due.is("no stile", Fields.laid("w0,0,1;").count(1), 0);
        Due.is("the 10th is not laid", Fields.written(NINE_STILES + "w0,0,1;s0,0,1;").lay(), NO);
    }

    // "9 at most, 0, 1, .."
    private static void stilesAreNumberedFrom0() {
        int[][] due = {{0, 0, 1}, {1, 1, 2}, {2, 2, 3}, {3, 3, 4}, {0, 4, 0}, {1, 0, 2}, {2, 0, 3}, {3, 1, 3}, {0, 1, 4}};
        StileAccounts x = Fields.laid(NINE_STILES + FOUR_WALKERS);
        for (int s = 0; s < 9; s++) {
            for (int what = 0; what <= 2; what++) {
                Due.is("stile(" + s + ", " + what + ")", x.stile(s, what), due[s][what]);
            }
        }
        StileAccounts mixed = Fields.laid("w0,0,1;s0,0,1;l10;w1,1,2;s1,1,2;l20;s2,2,3;");
        for (int s = 0; s < 3; s++) {
            Due.is("kind of " + s + " with others between", mixed.stile(s, 0), s);
        }
        Due.is("walkers between", mixed.walker(1, 0), 1);
    }

    // ---- promise 4: WALKERS

    private static void faultsOfWalkers() {
        kindsOfWalkersFrom0To3();
        walkersInFieldsThatThereAre();
        walkersFrom1To9Heavy();
        fourWalkersAtMost();
        walkersAreNumberedFrom0();
    }

    // "a WALKER of KIND K (0 PLAIN, 1 TALL, 2 SANDER, 3 CARRIED)"
    private static void kindsOfWalkersFrom0To3() {
        for (int k = 0; k <= 99; k++) {
            faultIs("w" + k + ",0,1;", faultIf(k > 3, 0));
        }
        for (int k = 0; k <= 3; k++) {
            Due.is("kind", Fields.laid("w" + k + ",0,1;").walker(0, 0), k);
        }
    }

    // "in FIELD P": such as there are
    private static void walkersInFieldsThatThereAre() {
        for (int n = 1; n <= 8; n++) {
            for (int p = 0; p <= 99; p++) {
                faultIs("f" + n + ";w0," + p + ",1;", faultIf(p >= n, 3));
            }
        }
        Due.is("in the first", Fields.laid("f8;w0,0,1;").walker(0, 1), 0);
        Due.is("in the last", Fields.laid("f8;w0,7,1;").walker(0, 1), 7);
    }

    // "who is G (1 to 9) heavy"
    private static void walkersFrom1To9Heavy() {
        for (int g = 0; g <= 99; g++) {
            faultIs("w0,0," + g + ";", faultIf(g < 1 || g > 9, 0));
        }
        for (int g = 1; g <= 9; g++) {
            Due.is("how heavy", Fields.laid("w0,0," + g + ";").walker(0, 2), g);
        }
    }

    // "a WALKER ..; 4 at most"
    private static void fourWalkersAtMost() {
        faultIs("w0,0,1;".repeat(3), NONE);
        faultIs(FOUR_WALKERS, NONE);
        faultIs(FOUR_WALKERS + "s0,0,1;l10;", NONE);
        faultIs(FOUR_WALKERS + "w0,0,1;", 28);
        faultIs(FOUR_WALKERS + NINE_STILES + "l10;w0,0,1;", 28 + 63 + 4);
        faultIs(FOUR_WALKERS + "w0,0,1;s9,9,9;", 28);
        Due.is("4 walkers", Fields.laid(FOUR_WALKERS).count(2), 4);
        Due.is("1 walker", Fields.laid("w0,0,1;").count(2), 1);
        Due.is("the 5th is not laid", Fields.written(FOUR_WALKERS + "w0,0,1;").lay(), NO);
    }

    // "4 at most, 0, 1, .."
    private static void walkersAreNumberedFrom0() {
        int[][] due = {{0, 0, 1}, {1, 1, 3}, {2, 2, 5}, {3, 4, 9}};
        StileAccounts x = Fields.laid("w0,0,1;" + NINE_STILES + "w1,1,3;l10;w2,2,5;w3,4,9;");
        for (int w = 0; w < 4; w++) {
            for (int what = 0; what <= 2; what++) {
                Due.is("walker(" + w + ", " + what + ")", x.walker(w, what), due[w][what]);
            }
        }
    }

    // ---- promise 4: when a STILE BREAKS

    private static void faultsOfLimits() {
        limitsFrom10To99();
        wornByTheLimitOrMore();
        fortyWithout();
        theLastLimitCounts();
    }

    // "lL .. by L (10 to 99)"
    private static void limitsFrom10To99() {
        for (int l = 0; l <= 99; l++) {
            faultIs("l" + l + ";", faultIf(l < 10, 0));
        }
        faultIs("l09;", 0);
        faultIs("l100;", 0);
        for (int l = 10; l <= 99; l++) {
            Due.is("treads by 1 until " + l, Fields.laid("s0,0,1;w0,0,1;l" + l + ";").lasts(0, 0), l);
        }
    }

    // "a STILE BREAKS, if it is worn by L or more"
    private static void wornByTheLimitOrMore() {
        int[] limits = {10, 11, 98, 99};
        for (int l : limits) {
            StileAccounts x = Fields.laid("s0,0,1;w0,0,1;w0,0,1;l" + l + ";");
            for (int i = 1; i < l; i++) {
                Due.is("tread " + i + " of " + l, x.tread(0, 0), i % 2);
            }
            Due.is("worn by one less than " + l, x.stile(0, 3), l - 1);
            Due.is("broken by one less than " + l, x.stile(0, 4), 0);
            Due.is("tread " + l, x.tread(0, 0), l % 2);
            Due.is("worn by " + l, x.stile(0, 3), l);
            Due.is("broken by " + l, x.stile(0, 4), 1);
            Due.is("tread over what is broken", x.tread(1, 0), NO);
            x.sand(0);
            Due.is("broken by more than " + l, x.stile(0, 4), 1);
        }
    }

    // "(40 without"
    private static void fortyWithout() {
        StileAccounts x = Fields.laid("s0,0,1;w0,0,1;w0,0,4;");
        Due.is("treads by 1", x.lasts(0, 0), 40);
        Fields.treads(x, 1, 0);
        Fields.sands(x, 0, 7);
        Due.is("worn", x.stile(0, 3), 39);
        Due.is("39 without", x.stile(0, 4), 0);
        Fields.treads(x, 0, 0);
        Due.is("40 without", x.stile(0, 4), 1);
        StileAccounts then = Fields.laid("l99;s0,0,1;w0,0,1;");
        then.wipe();
        Fields.write(then, "s0,0,1;w0,0,1;");
        then.lay();
        Due.is("without, behind 99", then.lasts(0, 0), 40);
    }

    // "of several such the last one counts"
    private static void theLastLimitCounts() {
        Due.is("99, 10", Fields.laid("s0,0,1;w0,0,1;l99;l10;").lasts(0, 0), 10);
        Due.is("10, 99", Fields.laid("s0,0,1;w0,0,1;l10;l99;").lasts(0, 0), 99);
        Due.is("50, 10, 20", Fields.laid("l50;s0,0,1;l10;w0,0,1;l20;").lasts(0, 0), 20);
        Due.is("ahead of all", Fields.laid("l20;l30;s0,0,1;w0,0,1;").lasts(0, 0), 30);
        faultIs("l20;l9;l30;", 4);
    }

    // ---- promise 4: the place

    private static void placesOfFaults() {
        thePlaceOfTheFirstLetter();
        theFirstItemThatIsNotSo();
        thePlaceFrom0OnTo199();
    }

    // "FAULT: the place .. of the first letter of the .. ITEM": not that of the number or of the letter that is wrong
    private static void thePlaceOfTheFirstLetter() {
        faultIs("f3;s0,0,3;", 3);
        faultIs("f3;s0,0,2;s0,2,1;w0,0,10;", 17);
        faultIs("f3;w0,0,1;l10;l9;", 14);
        faultIs("f3;w0,0,1;l10;l1x;", 14);
        faultIs("f3;w0,0,1;l10;l10", 14);
    }

    // "of the first ITEM that is not so"
    private static void theFirstItemThatIsNotSo() {
        faultIs("f0;f9;", 0);
        faultIs("f3;l9;f9;", 3);
        faultIs("f3;l10;x;l9;", 7);
        faultIs("f3;l10;l9;x", 7);
        faultIs("s0,0,0;" + "s0,0,1;".repeat(9), 0);
        faultIs("s0,0,1;".repeat(9) + "w0,0,0;s0,0,1;", 63);
        faultIs("s0,0,1;".repeat(9) + "s0,0,1;w0,0,0;", 63);
    }

    // "the place (from 0 on)": the first letter's is 0, the 200th one's 199
    private static void thePlaceFrom0OnTo199() {
        faultIs("x", 0);
        faultIs("l10;x", 4);
        faultIs("l10;".repeat(49) + "l99", 196);
        faultIs("l10;".repeat(48) + "w0,0,1;x", 199);
        faultIs("l10;".repeat(48) + "w0,0,1;;", 199);
        faultIs("l10;".repeat(49) + "l99;", NONE);
        faultIs("l" + "1".repeat(199), 0);
        faultIs("s" + "0,".repeat(99) + "0", 0);
    }

    // ---- promise 5

    private static void laying() {
        aWalkerAtLeast();
        withoutFault();
        layTellsTheFields();
        nothingWornSeenUndoneKept();
        theTextStays();
        walkersStandWhereTold();
    }

    // "LAID is a TEXT .. of a WALKER at least (NO else"
    private static void aWalkerAtLeast() {
        String[] without = {"", "f3;", "l10;", "f5;s0,0,1;l20;", NINE_STILES};
        for (String text : without) {
            Due.is("fault of " + text, Fields.written(text).fault(), NONE);
            Bounds.refused("lay of " + text, () -> livedWith(text), NO, StileAccounts::lay);
        }
        Due.is("lay of one walker", Fields.written("w0,0,1;").lay(), 5);
        Due.is("lay of four walkers", Fields.written(FOUR_WALKERS).lay(), 5);
    }

    // "LAID is a TEXT without FAULT .. (NO else"
    private static void withoutFault() {
        String[] with = {"x", "w0,0,1", "w0,0,1;x", "xw0,0,1;", "w0,0,1;f3;", "w0,0,1;w0,0,0;", "l9;w0,0,1;",
            NINE_STILES + "w0,0,1;s0,0,1;", FOUR_WALKERS + "w0,0,1;"};
        for (String text : with) {
            Bounds.refused("lay of " + text, () -> livedWith(text), NO, StileAccounts::lay);
        }
        StileAccounts x = livedWith("w0,0,1");
        Due.is("lay with fault", x.lay(), NO);
        x.write(';');
        Due.is("lay without fault", x.lay(), 5);
    }

    private static StileAccounts livedWith(String text) {
        StileAccounts x = Fields.lived();
        x.wipe();
        Fields.write(x, text);
        return x;
    }

    // Promise 5, "how many FIELDS"
    private static void layTellsTheFields() {
        for (int n = 1; n <= 8; n++) {
            Due.is("lay of f" + n, Fields.written("f" + n + ";w0,0,1;").lay(), n);
        }
        Due.is("lay without f", Fields.written("w0,0,1;").lay(), 5);
    }

    // Promise 5, "nothing worn, SEEN, UNDONE, KEPT", from where all is full
    private static void nothingWornSeenUndoneKept() {
        StileAccounts x = Fields.full();
        Due.is("undone ahead of it", x.count(8), 8);
        Due.is("seen ahead of it", x.count(7), 6);
        Due.is("kept ahead of it", x.count(9), 2);
        x.wipe();
        Fields.write(x, "f2;s0,0,1;w0,1,2;l10;");
        Due.is("lay", x.lay(), 2);
        for (int what = 3; what <= 9; what++) {
            Due.is("count(" + what + ")", x.count(what), 0);
        }
        Due.is("worn", x.stile(0, 3), 0);
        Due.is("account", x.account(0, 0), 1000);
        Due.is("credit", x.walker(0, 3), 0);
        Due.is("level", x.walker(0, 4), 1);
        Due.is("latest", x.walker(0, 5), NONE);
        Due.is("whose", x.whose(0), 1);
        Due.is("undo", x.undo(), NO);
        Due.is("back", x.back(), NO);
        Due.is("forget", x.forget(), 0);
        Due.is("keep", x.keep(), 1);
        Due.is("see", x.see(0, 1), 1);
    }

    // Promise 5, "THE TEXT stays"
    private static void theTextStays() {
        StileAccounts x = Fields.laid(Fields.LIVED);
        Due.is("letters", x.count(10), 42);
        Fields.treads(x, 0, 0, 1);
        Due.is("lay again", x.lay(), 4);
        Due.is("worn again", x.count(5), 0);
        Due.is("a letter behind it", x.write('x'), 43);
        Due.is("fault behind it", x.fault(), 42);
        Due.is("lay with a fault behind it", x.lay(), NO);
        Due.is("wipe", x.wipe(), 43);
        Due.is("what is laid stays", x.count(0), 4);
    }

    // Promise 5: LAID again each WALKER is in the FIELD that is told, whatever he did
    private static void walkersStandWhereTold() {
        StileAccounts x = Fields.laid(NINE_STILES + FOUR_WALKERS);
        Fields.treads(x, 0, 0, 7);
        Fields.treads(x, 1, 1);
        Fields.treads(x, 2, 1);
        Fields.treads(x, 3, 8);
        x.lay();
        int[] due = {0, 1, 2, 4};
        for (int w = 0; w < 4; w++) {
            Due.is("field of " + w, x.walker(w, 1), due[w]);
            Due.is("latest of " + w, x.walker(w, 5), NONE);
            Due.is("credit of " + w, x.walker(w, 3), 0);
            Due.is("level is " + w, x.walker(w, 4), 1);
        }
    }
}
