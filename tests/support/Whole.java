import java.util.ArrayList;
import java.util.LinkedHashMap;
import java.util.List;
import java.util.Map;
import java.util.TreeSet;

/**
 * All that there is of an object behind a call: how it stands, what is undone and kept in it, what its text lays.
 * Each part is read of an object of its own, made and called alike, as reading one takes another away, and as one
 * object is used for 512 calls only.
 */
final class Whole {
    private static final int NO = -2;

    final Map<String, Integer> now = new LinkedHashMap<>();
    final String ways;
    final String glance;
    final List<String> undone;
    final List<String> kept;
    final String laid;

    private Whole(Bounds.Made made, Bounds.Call call) {
        StileAccounts x = after(made, call);
        readFields(x);
        readStiles(x);
        readWalkers(x);
        ways = waysOf(x);
        glance = Fields.glance(x);
        undone = behind(made, call, StileAccounts::undo);
        kept = behind(made, call, StileAccounts::back);
        laid = layIn(after(made, call));
    }

    static Whole of(Bounds.Made made, Bounds.Call call) {
        return new Whole(made, call);
    }

    /** What stands otherwise than it stood there, each by its name, in order: what it was, then what it is. */
    String changesFrom(Whole before) {
        TreeSet<String> names = new TreeSet<>(now.keySet());
        names.addAll(before.now.keySet());
        List<String> changes = new ArrayList<>();
        for (String name : names) {
            if (!String.valueOf(now.get(name)).equals(String.valueOf(before.now.get(name)))) {
                changes.add(name + " " + before.now.get(name) + ">" + now.get(name));
            }
        }
        return String.join("; ", changes);
    }

    private static StileAccounts after(Bounds.Made made, Bounds.Call call) {
        StileAccounts x = made.one();
        call.on(x);
        return x;
    }

    /** How things stand by one step back, by two, and on until there is none. */
    private static List<String> behind(Bounds.Made made, Bounds.Call call, Bounds.Call step) {
        List<String> all = new ArrayList<>();
        for (int steps = 1; steps <= 10; steps++) {
            StileAccounts x = after(made, call);
            int left = 0;
            for (int i = 0; i < steps; i++) {
                left = step.on(x);
            }
            if (left == NO) {
                return all;
            }
            all.add(Fields.glance(x));
        }
        return all;
    }

    private static String layIn(StileAccounts x) {
        int fields = x.lay();
        return "lay " + fields + (fields < 0 ? " of " + x.count(10) + ", fault " + x.fault() : " " + Fields.standing(x));
    }

    private void readFields(StileAccounts x) {
        String[] names = {"fields", "stiles", "walkers", "treads", "broken", "worn", "credit", "seen", "undone", "kept", "letters"};
        for (int what = 0; what < names.length; what++) {
            now.put("all " + names[what], x.count(what));
        }
        now.put("fault", x.fault());
    }

    private void readStiles(StileAccounts x) {
        String[] names = {"kind", "A", "B", "worn", "broken"};
        for (int s = 0; s < now.get("all stiles"); s++) {
            for (int what = 0; what < names.length; what++) {
                now.put("stile " + s + " " + names[what], x.stile(s, what));
            }
            now.put("stile " + s + " whose", x.whose(s));
        }
    }

    private void readWalkers(StileAccounts x) {
        String[] names = {"kind", "field", "weight", "credit", "level", "latest"};
        for (int w = 0; w < now.get("all walkers"); w++) {
            for (int what = 0; what < names.length; what++) {
                now.put("walker " + w + " " + names[what], x.walker(w, what));
            }
            for (int s = 0; s < now.get("all stiles"); s++) {
                now.put("walker " + w + " account " + s, x.account(w, s));
            }
        }
    }

    private String waysOf(StileAccounts x) {
        StringBuilder all = new StringBuilder("even");
        for (int w = 0; w < now.get("all walkers"); w++) {
            all.append(' ').append(x.even(w));
        }
        all.append(" measure ").append(x.measure(0)).append(" new ").append(x.fresh(0)).append(' ').append(x.fresh(1));
        return all.append(" richest ").append(x.richest()).toString();
    }
}
