/** Writes and lays texts, and tells all that an object answers of how things stand. */
final class Fields {
    static final String FIRST =
        "f6;s0,0,1;s1,1,2;s0,2,3;s2,3,0;s1,1,4;s3,4,5;s0,5,2;w0,0,3;w1,2,4;w2,4,2;w3,5,5;l30;";

    private Fields() {
    }

    static StileAccounts written(String text) {
        StileAccounts x = new StileAccounts();
        write(x, text);
        return x;
    }

    static StileAccounts laid(String text) {
        StileAccounts x = written(text);
        Due.holds("laid: " + text, x.lay() > 0);
        return x;
    }

    static void write(StileAccounts x, String text) {
        for (int i = 0; i < text.length(); i++) {
            x.write(text.charAt(i));
        }
    }

    static void treads(StileAccounts x, int w, int... stiles) {
        for (int s : stiles) {
            Due.holds("walker " + w + " treads over " + s, x.tread(w, s) >= 0);
        }
    }

    static void sands(StileAccounts x, int s, int times) {
        for (int i = 0; i < times; i++) {
            x.sand(s);
        }
    }

    /** Some 130 calls, none of which changes anything. */
    static String standing(StileAccounts x) {
        StringBuilder all = new StringBuilder();
        for (int what = 0; what <= 10; what++) {
            all.append(x.count(what)).append(' ');
        }
        for (int s = 0; s < x.count(1); s++) {
            for (int what = 0; what <= 4; what++) {
                all.append(x.stile(s, what)).append(' ');
            }
            all.append(x.whose(s)).append(' ');
        }
        for (int w = 0; w < x.count(2); w++) {
            for (int what = 0; what <= 5; what++) {
                all.append(x.walker(w, what)).append(' ');
            }
            for (int s = 0; s < x.count(1); s++) {
                all.append(x.account(w, s)).append(' ');
            }
        }
        return all.append(x.fault()).toString();
    }

    static void same(String what, StileAccounts x, String before) {
        Due.holds(what + " changes nothing", standing(x).equals(before));
    }
}
