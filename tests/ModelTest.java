/** Long runs of calls drawn by a fixed rule, each answer compared with that of the model. */
public final class ModelTest {
    private static final int RUNS = 600;
    private static final int CALLS = 512;
    private static final int[] ODD = {-1, 1000, Integer.MIN_VALUE, Integer.MAX_VALUE, 10, 61};

    private final StileAccounts told = new StileAccounts();
    private final Model model = new Model();
    private long seed;
    private int calls = 0;
    private int drawn;
    private static int evens = 0;

    private ModelTest(long seed) {
        this.seed = seed;
    }

    public static void main(String[] args) {
        for (int run = 0; run < RUNS && Due.isAllRight(); run++) {
            new ModelTest(run).run(run);
        }
        Due.holds("even was asked of many that are not level", evens > 2000);
        Due.end();
    }

    private int below(int n) {
        seed = seed * 6364136223846793005L + 1442695040888963407L;
        return (int) ((seed >>> 33) % n);
    }

    /** A number from 0 on below n, seldom one that is not told. */
    private int some(int n) {
        int odd = below(60);
        return odd == 0 ? n : odd == 1 ? ODD[below(ODD.length)] : below(Math.max(n, 1));
    }

    private void run(int run) {
        if (run % 4 != 0) {
            layText(run);
        }
        while (calls < CALLS && Due.isAllRight()) {
            calls++;
            callOne(run);
        }
    }

    private void layText(int run) {
        String text = drawText();
        for (int i = 0; i < text.length(); i++) {
            calls++;
            Due.is(run + ": write of " + text, told.write(text.charAt(i)), model.write(text.charAt(i)));
        }
        calls += 2;
        Due.is(run + ": fault of " + text, told.fault(), model.fault());
        Due.is(run + ": lay of " + text, told.lay(), model.lay());
    }

    private String drawText() {
        StringBuilder text = new StringBuilder();
        int fields = 2 + below(7);
        text.append('f').append(fields).append(';');
        int stiles = below(11);
        for (int i = 0; i < stiles; i++) {
            int a = below(fields);
            int b = (a + 1 + below(fields - 1)) % fields;
            text.append('s').append(below(4)).append(',').append(a).append(',').append(b).append(';');
            if (below(9) == 0) {
                text.append('l').append(10 + below(40)).append(';');
            }
        }
        int walkers = 1 + below(4);
        for (int i = 0; i < walkers; i++) {
            text.append('w').append(below(4)).append(',').append(below(fields)).append(',').append(1 + below(9)).append(';');
        }
        if (below(6) == 0) {
            text.setCharAt(below(text.length()), "0123456789;;,,fswlF x".charAt(below(21)));
        }
        return text.toString();
    }

    private void callOne(int run) {
        int s = some(model.count(1));
        int w = some(model.count(2));
        int f = some(model.count(0));
        int what = some(2);
        int kind = below(40);
        String call = run + ", " + calls + ": " + kind + " of " + s + ", " + w + ", " + f + ", " + what;
        if (kind < 16) {
            Due.is(call + " tread", told.tread(w, drawStile(w, s)), model.tread(w, drawn));
        } else if (kind < 24) {
            change(call, kind, s, below(9));
        } else if (kind < 32) {
            ask(call, kind, s, w, f, what);
        } else {
            tell(call, kind, s, w, f, what);
        }
    }

    /** Mostly a stile that can be gone over, so that runs get far. */
    private int drawStile(int w, int s) {
        drawn = s;
        for (int tries = 0; tries < 6 && !canGo(w, drawn); tries++) {
            drawn = below(Math.max(1, model.count(1)));
        }
        return drawn;
    }

    private boolean canGo(int w, int s) {
        int f = model.walker(w, 1);
        return model.stile(s, 4) != 0 || model.stile(s, 1) == f || model.stile(s, 2) == f;
    }

    private void change(String call, int kind, int s, int seldom) {
        switch (kind) {
            case 16: Due.is(call + " replace", told.replace(s), model.replace(s)); break;
            case 17: Due.is(call + " sand", told.sand(s), model.sand(s)); break;
            case 18: Due.is(call + " undo", told.undo(), model.undo()); break;
            case 19: Due.is(call + " keep", told.keep(), model.keep()); break;
            case 20: Due.is(call + " back", told.back(), model.back()); break;
            case 21: seenOne(call, s, seldom); break;
            case 22: letters(call, seldom); break;
            default: Due.is(call + " richest", told.richest(), model.richest()); break;
        }
    }

    private void seenOne(String call, int s, int seldom) {
        if (seldom == 0) {
            Due.is(call + " forget", told.forget(), model.forget());
        } else {
            int v = seldom < 7 ? below(10) * below(12) : some(1000);
            Due.is(call + " see " + v, told.see(s, v), model.see(s, v));
        }
    }

    private void letters(String call, int seldom) {
        if (seldom == 0) {
            Due.is(call + " lay", told.lay(), model.lay());
        } else if (seldom == 1) {
            Due.is(call + " wipe", told.wipe(), model.wipe());
        } else {
            int letter = seldom == 2 ? below(200) - 20 : "f5;s0,1w3;l2".charAt(below(12));
            Due.is(call + " write " + letter, told.write(letter), model.write(letter));
            if (calls < CALLS) {
                calls++;
                Due.is(call + " fault", told.fault(), model.fault());
            }
        }
    }

    private void ask(String call, int kind, int s, int w, int f, int what) {
        int v = kind % 2 == 0 ? some(1000) : below(10) * below(12);
        int n = some(9);
        int x = some(11);
        int z = some(10000);
        int treads = 1 + some(60);
        switch (kind) {
            case 24: case 25: Due.is(call + " often " + v, told.often(w, s, v), model.often(w, s, v)); break;
            case 26: Due.is(call + " whose", told.whose(s), model.whose(s)); break;
            case 27: case 28:
                Due.is(call + " drunk " + n + " " + x, told.drunk(w, f, n, x, what), model.drunk(w, f, n, x, what));
                break;
            case 29: case 30:
                Due.is(call + " year " + z + " " + treads, told.year(z, treads, what), model.year(z, treads, what));
                break;
            default: Due.is(call + " lasts", told.lasts(s, w), model.lasts(s, w)); break;
        }
    }

    private void tell(String call, int kind, int s, int w, int f, int what) {
        int more = some(11);
        switch (kind) {
            case 32: even(call, w); break;
            case 33: Due.is(call + " way", told.way(w, f, what), model.way(w, f, what)); break;
            case 34: Due.is(call + " measure", told.measure(what), model.measure(what)); break;
            case 35: Due.is(call + " fresh", told.fresh(what), model.fresh(what)); break;
            case 36: Due.is(call + " account", told.account(w, s), model.account(w, s)); break;
            case 37: Due.is(call + " stile " + more, told.stile(s, more), model.stile(s, more)); break;
            case 38: Due.is(call + " walker " + more, told.walker(w, more), model.walker(w, more)); break;
            default: Due.is(call + " count " + more, told.count(more), model.count(more)); break;
        }
    }

    private void even(String call, int w) {
        int due = model.even(w);
        if (due != Model.UNKNOWN) {
            Due.is(call + " even", told.even(w), due);
        }
        if (due > 0 || due == -4) {
            evens++;
        }
    }
}
