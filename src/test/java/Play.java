import java.lang.reflect.InvocationTargetException;
import java.lang.reflect.Method;
import java.lang.reflect.Modifier;
import java.util.ArrayList;
import java.util.Arrays;
import java.util.HashMap;
import java.util.List;
import java.util.Map;

/**
 * A new object with the calls that were made on it, so that the same calls can be made on twins of it: what a call
 * leaves unchanged is seen by asking all that can be asked of a twin with that call and of one without it.
 */
final class Play {
    private static final int MOST_CALLS = 512;
    private static final int LOOKS = 3;
    private static final Map<String, Method> FACE = face();

    private static final class Call {
        final String name;
        final long[] args;

        Call(String name, long... args) {
            this.name = name;
            this.args = args;
        }

        @Override public String toString() {
            return name + Arrays.toString(args).replace('[', '(').replace(']', ')');
        }
    }

    private final LateSeekers x = new LateSeekers();
    private final List<Call> made = new ArrayList<>();
    private int calls;

    private static Map<String, Method> face() {
        Map<String, Method> face = new HashMap<>();
        for (Method m : LateSeekers.class.getDeclaredMethods()) {
            if (Modifier.isPublic(m.getModifiers())) face.put(m.getName(), m);
        }
        return face;
    }

    /** A park told in a text. */
    static Play of(String text) {
        Play p = new Play();
        p.feed(text);
        long people = p.call("park");
        Check.holds(Doc.at() + "the text stands: " + text + " (" + people + ")", people >= 0);
        return p;
    }

    /** Eight: one SEEKS AT 3 and sees 12; the other is HIDDEN AT 4, where it hides 3; six stay HIDDEN AT 0, unseen. */
    static Play withFinder(int finder, int other) {
        Play p = new Play();
        for (int i = 0; i < 8; i++) p.call("person", i == finder || i == other ? 0 : 5, 0, i == other ? 0 : 9, 0, i == finder ? 1 : 0);
        p.call("bring", finder, 3);
        p.call("bring", other, 4);
        return p;
    }

    Play feed(String text) {
        for (int i = 0; i < text.length(); i += 8) {
            int n = Math.min(8, text.length() - i);
            long eight = 0;
            for (int k = n - 1; k >= 0; k--) eight = eight << 8 | text.charAt(i + k) & 255;
            call("feed", eight, n);
        }
        return this;
    }

    /** A call whose answer is not looked at. */
    long call(String name, long... args) {
        Call c = new Call(name, args);
        made.add(c);
        return answer(c);
    }

    /** A call that may change something. */
    Play due(long want, String name, long... args) {
        Call c = new Call(name, args);
        made.add(c);
        Check.due(Doc.at() + c, answer(c), want);
        return this;
    }

    /** A call that changes nothing: it asks, or is refused. */
    Play asked(long want, String name, long... args) {
        Call c = new Call(name, args);
        Check.due(Doc.at() + c, answer(c), want);
        changesNothing(c, made);
        return this;
    }

    /** park() is refused: it changes nothing, but THE TAPE is used up. */
    Play faulty(String text, int fault) {
        List<Call> before = new ArrayList<>(made);
        feed(text);
        Call park = new Call("park");
        Check.due(Doc.at() + "park() of '" + text + "'", answer(park), -100 - fault);
        made.add(park);
        Check.due(Doc.at() + "bytes behind park() of '" + text + "'", answer(new Call("many", 5)), 0);
        same(park, made, before);
        return this;
    }

    /** BAD for each number of the argument at that place that is not within least and most; the others stay. */
    Play badOutside(long least, long most, int place, String name, long... args) {
        for (long v : new long[] {least - 1, most + 1, Integer.MIN_VALUE, Integer.MAX_VALUE}) {
            long[] bad = args.clone();
            bad[place] = v;
            asked(-1, name, bad);
        }
        return this;
    }

    /** of(person, 0 to 5). */
    Play one(int person, int kind, int age, int wit, int at, int hidden, int finds) {
        int[] want = {kind, age, wit, at, hidden, finds};
        for (int what = 0; what < want.length; what++) is(want[what], "of", person, what);
        return this;
    }

    /** A call that only asks, where that is not what is tested. */
    Play is(long want, String name, long... args) {
        Call c = new Call(name, args);
        Check.due(Doc.at() + c, answer(c), want);
        return this;
    }

    /** All that is kept of the latest act(). */
    Play traced(int... bodies) {
        is(bodies.length, "many", 6);
        for (int i = 0; i < bodies.length; i++) is(bodies[i], "trace", i);
        return is(-3, "trace", bodies.length);
    }

    int callsMade() {
        return calls;
    }

    private long answer(Call c) {
        calls++;
        if (calls == MOST_CALLS + 1) Check.holds(Doc.at() + "a test stays within 512 calls", false);
        Method m = FACE.get(c.name);
        Object[] args = new Object[c.args.length];
        for (int i = 0; i < args.length; i++) {
            if (m.getParameterTypes()[i] == long.class) args[i] = c.args[i];
            else args[i] = (int) c.args[i];
        }
        try {
            return ((Number) m.invoke(x, args)).longValue();
        } catch (InvocationTargetException e) {
            Check.holds(Doc.at() + c + " threw " + e.getCause(), false);
        } catch (IllegalAccessException e) {
            Check.holds(Doc.at() + c + " is not public", false);
        }
        return Long.MIN_VALUE;
    }

    private static void changesNothing(Call c, List<Call> before) {
        List<Call> with = new ArrayList<>(before);
        with.add(c);
        same(c, with, before);
    }

    private static void same(Call c, List<Call> with, List<Call> without) {
        for (int part = 0; part < LOOKS; part++) {
            List<String> is = again(with).look(part);
            List<String> was = again(without).look(part);
            if (is.equals(was)) continue;
            int i = 0;
            while (i < is.size() && i < was.size() && is.get(i).equals(was.get(i))) i++;
            Check.holds(Doc.at() + c + " changes nothing: behind it " + is.subList(i, Math.min(is.size(), i + 1))
                + ", without it " + was.subList(i, Math.min(was.size(), i + 1)), false);
        }
    }

    private static Play again(List<Call> calls) {
        Play p = new Play();
        for (Call c : calls) p.call(c.name, c.args);
        return p;
    }

    private List<String> look(int part) {
        List<String> seen = new ArrayList<>();
        if (part == 0) {
            lookAtPark(seen);
            for (int i = 0; i < 7; i++) see(seen, "many", i);
            // what is kept
            see(seen, "again");
            lookAtPark(seen);
        } else if (part == 1) {
            lookAtThings(seen);
        } else {
            // what THE TAPE has is seen by the park that it tells
            see(seen, "park");
            lookAtPark(seen);
        }
        return seen;
    }

    private void lookAtPark(List<String> seen) {
        for (int i = 0; i < 4; i++) see(seen, "lawOf", i);
        for (int i = 0; i < 6; i++) see(seen, "state", i);
        for (int i = 0; i < 12; i++) see(seen, "place", i, 0);
        for (int i = 0; i < 8; i++) {
            for (int what = 0; what < 6; what++) see(seen, "of", i, what);
        }
        long z = see(seen, "seed", 0);
        answer(new Call("seed", z));
    }

    private void lookAtThings(List<String> seen) {
        for (int i = 0; i < 10; i++) {
            for (int what = 0; what < 3; what++) see(seen, "row", i, what);
        }
        for (int shelf = 0; shelf < 4; shelf++) {
            for (int as = 0; as < 14; as++) see(seen, "taken", shelf, as);
        }
        for (int i = 0; i < 12; i++) see(seen, "trace", i);
        for (int sheet = 0; sheet < 4; sheet++) {
            for (int sort = 0; sort < 4; sort++) {
                long first = see(seen, "item", sheet, sort, 0);
                if (first == -11 || first == -13) continue;
                for (int i = 1; i < 40; i++) {
                    if (see(seen, "item", sheet, sort, i) == -12) break;
                }
            }
        }
    }

    private long see(List<String> seen, String name, long... args) {
        Call c = new Call(name, args);
        long answer = answer(c);
        seen.add(c + " is " + answer);
        return answer;
    }
}
