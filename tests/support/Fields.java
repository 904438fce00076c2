/** Writes and lays texts, and tells all that an object answers of how things stand. */
final class Fields {
    static final String FIRST =
        "f6;s0,0,1;s1,1,2;s0,2,3;s2,3,0;s1,1,4;s3,4,5;s0,5,2;w0,0,3;w1,2,4;w2,4,2;w3,5,5;l30;";
    static final String LIVED = "f4;s0,0,1;s1,1,2;s2,2,0;w0,0,3;w1,1,2;l20;";
    static final String LEAST = "f1;w0,0,1;";
    static final String MOST =
        "f8;s0,0,1;s1,1,2;s2,2,3;s3,3,4;s0,4,5;s0,5,6;s0,6,7;s0,7,0;s0,0,2;w0,0,1;w1,1,2;w2,2,3;w3,3,9;";

    private Fields() {
    }

    static StileAccounts written(String text) {
        StileAccounts x = new StileAccounts();
        write(x, text);
        return x;
    }

    static StileAccounts laid(String text) {
        StileAccounts x = written(text);
        Due.holds("laid: " + text, x.lay() > 0);
        return x;
    }

    static void write(StileAccounts x, String text) {
        for (int i = 0; i < text.length(); i++) {
            x.write(text.charAt(i));
        }
    }

    static void treads(StileAccounts x, int w, int... stiles) {
        for (int s : stiles) {
            Due.holds("walker " + w + " treads over " + s, x.tread(w, s) >= 0);
        }
    }

    static void sands(StileAccounts x, int s, int times) {
        for (int i = 0; i < times; i++) {
            x.sand(s);
        }
    }

    /** One in whom there is something of all: worn, broken, replaced, undone, seen, kept, a text longer than what is laid. */
    static StileAccounts lived() {
        StileAccounts x = laid(LIVED);
        treads(x, 0, 0, 1);
        x.sand(0);
        x.keep();
        treads(x, 1, 0, 0, 1);
        x.replace(2);
        sands(x, 1, 3);
        x.see(0, 6);
        x.see(1, 4);
        write(x, "l30;");
        return x;
    }

    /** One in whom all is full: 8 undone, 6 seen, 2 kept, 200 letters. */
    static StileAccounts full() {
        String text = "f3;s0,0,1;w0,0,1;l10;";
        StileAccounts x = laid(text);
        treads(x, 0, 0);
        x.keep();
        sands(x, 0, 1);
        x.keep();
        sands(x, 0, 8);
        for (int v = 0; v < 6; v++) {
            x.see(0, v);
        }
        write(x, "x".repeat(200 - text.length()));
        return x;
    }

    static StileAccounts least() {
        return laid(LEAST);
    }

    static StileAccounts most() {
        return laid(MOST);
    }

    /** Some 130 calls, none of which changes anything. */
    static String standing(StileAccounts x) {
        return lying(x) + " letters " + x.count(10) + " fault " + x.fault();
    }

    /** How all stands but the text. */
    static String lying(StileAccounts x) {
        StringBuilder all = new StringBuilder("counts ");
        for (int what = 0; what <= 9; what++) {
            all.append(x.count(what)).append(' ');
        }
        int stiles = x.count(1);
        int walkers = x.count(2);
        for (int s = 0; s < stiles; s++) {
            all.append(" stile ");
            for (int what = 0; what <= 4; what++) {
                all.append(x.stile(s, what)).append(' ');
            }
            all.append(x.whose(s)).append(' ');
        }
        for (int w = 0; w < walkers; w++) {
            all.append(" walker ");
            for (int what = 0; what <= 5; what++) {
                all.append(x.walker(w, what)).append(' ');
            }
            for (int s = 0; s < stiles; s++) {
                all.append(x.account(w, s)).append(' ');
            }
        }
        return all.toString();
    }

    /** How all that can be undone stands, but how much can be. */
    static String glance(StileAccounts x) {
        StringBuilder all = new StringBuilder("treads ").append(x.count(3));
        int stiles = x.count(1);
        int walkers = x.count(2);
        for (int s = 0; s < stiles; s++) {
            all.append(" worn ").append(x.stile(s, 3));
        }
        for (int w = 0; w < walkers; w++) {
            all.append(" walker ").append(x.walker(w, 1)).append(' ').append(x.walker(w, 3)).append(' ').append(x.walker(w, 5));
            for (int s = 0; s < stiles; s++) {
                all.append(' ').append(x.account(w, s));
            }
        }
        return all.toString();
    }

    /** Standing, then what is undone and kept, then what the text lays: nothing of it is left then. */
    static String wholly(StileAccounts x) {
        StringBuilder all = new StringBuilder(standing(x));
        int left = 0;
        for (int i = 0; i <= 8 && left >= 0; i++) {
            left = x.undo();
            all.append(" undo ").append(left).append(' ').append(glance(x));
        }
        left = 0;
        for (int i = 0; i <= 2 && left >= 0; i++) {
            left = x.back();
            all.append(" back ").append(left).append(' ').append(glance(x));
        }
        all.append(" forget ").append(x.forget()).append(" lay ").append(x.lay()).append(' ').append(standing(x));
        return all.append(" wipe ").append(x.wipe()).toString();
    }

    static void same(String what, StileAccounts x, String before) {
        Due.holds(what + " changes nothing", standing(x).equals(before));
    }
}
