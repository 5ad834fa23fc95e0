import java.util.ArrayList;
import java.util.List;

/**
 * Runs of calls of all kinds, with right and wrong arguments, drawn by a fixed rule: what holds for
 * any of them, whatever they answer.
 */
public final class AnyCallTest {
    private static final Check check = new Check("AnyCallTest");
    private static final int RUNS = 400;
    /** With the calls that look at the object behind them, fewer than 512. */
    private static final int CALLS = 380;
    private static final int CALLS_WITH_LIMITS = 56;
    /** The rows' counts, and how many of each there may be. */
    private static final int[] LIMITS = {0, 5, 3, 4, 6, 4, 0, 0, 0, 3, 40, 1};
    private static final int[] NUMBERS = {
        0, 1, 2, 3, 4, 5, 7, 8, 9, 10, 11, 12, 20, 21, 40, 41, 99, 100, 101, 254, 255, 256, 999,
        1000, 1001, 65535, 65536, -1, -2, -256, -257, Integer.MIN_VALUE, Integer.MAX_VALUE,
    };
    private static final int[] PREFIXES = {1, 1, 1, 2, 3, 4, 5, 6, 250};
    private static final List<String> READING = List.of("count", "own", "until", "neighbour",
            "sizeTo", "outKind", "outTo", "outX");

    private static long drawn = 1;

    /** One call of the face with its arguments. */
    private record AnyCall(String name, int[] a) {
        boolean isReading() {
            return READING.contains(name);
        }

        /** Its answer, 0 if it has none. */
        int make(LinkHost host) {
            switch (name) {
                case "tick": host.tick(a[0]); return 0;
                case "router": host.router(a[0], a[1], a[2], a[3]); return 0;
                case "prefix": host.prefix(a[0], a[1], a[2], a[3]); return 0;
                case "asked": host.asked(a[0], a[1], a[2]); return 0;
                case "told": host.told(a[0], a[1], a[2]); return 0;
                case "send": return host.send(a[0], a[1]);
                case "smaller": host.smaller(a[0], a[1]); return 0;
                case "header": return host.header(a[0], a[1]);
                case "come": return host.come(a[0], a[1]);
                case "count": return host.count(a[0]);
                case "own": return host.own(a[0]);
                case "until": return host.until(a[0]);
                case "neighbour": return host.neighbour(a[0]);
                case "sizeTo": return host.sizeTo(a[0]);
                case "outKind": return host.outKind(a[0]);
                case "outTo": return host.outTo(a[0]);
                default: return host.outX(a[0]);
            }
        }

        /** Whether the document lets this call throw an exception of that class. */
        boolean mayThrow(Class<?> thrown) {
            switch (name) {
                case "tick": case "count":
                    return thrown == IllegalArgumentException.class;
                case "own": case "until": case "outKind": case "outTo": case "outX":
                    return thrown == IndexOutOfBoundsException.class;
                case "neighbour": case "sizeTo":
                    return false;
                default:
                    return thrown == IllegalArgumentException.class
                            || thrown == IllegalStateException.class;
            }
        }
    }

    public static void main(String[] args) {
        for (int run = 1; run <= RUNS; run++) {
            drawn = run;
            List<AnyCall> calls = draw(CALLS, run % 5 == 0);
            int id = among(NUMBERS);
            throwsOnlyAsTheDocumentSays(id, calls);
            refusedCallsChangeNothing(id, calls);
            readingCallsChangeNothing(id, calls);
            sameCallsSameAnswers(id, calls);
            rowsKeepTheirLimits(id, calls);
        }
        lateCallsThrowNothingElse();
        check.end();
    }

    private static int below(int bound) {
        drawn = drawn * 6364136223846793005L + 1442695040888963407L;
        return (int) ((drawn >>> 33) % bound);
    }

    private static int among(int[] values) {
        return values[below(values.length)];
    }

    /** Mostly one that fits its place, so that runs go on; now and then any other number. */
    private static int number(int least, int most) {
        return below(25) == 0 ? among(NUMBERS) : least + below(most - least + 1);
    }

    private static int life() {
        return below(3) == 0 ? among(NUMBERS) : below(30);
    }

    private static int address() {
        return below(25) == 0 ? among(NUMBERS) : 256 * among(PREFIXES) + 1 + below(9);
    }

    private static AnyCall call(String name, int... arguments) {
        return new AnyCall(name, arguments);
    }

    private static AnyCall drawOne() {
        switch (below(20)) {
            case 0: case 1: return call("tick", number(1, 6));
            case 2: return call("router", number(1, 9), number(1, 3), life(), number(0, 45));
            case 3: case 4: return call("prefix", number(1, 7), number(0, 3), life(), life());
            case 5: return call("asked", below(3) == 0 ? 0 : address(), address(), number(1, 3));
            case 6: case 7: return call("told", address(), number(1, 3), number(0, 7));
            case 8: case 9: return call("send", address(), number(1, 40));
            case 10: return call("smaller", address(), number(0, 40));
            case 11: case 12: return call("header", number(0, 9), number(0, 3));
            case 13: return call("come", address(), below(2) == 0 ? 65535 : address());
            case 14: return call("count", number(0, 11));
            case 15: return call(below(2) == 0 ? "own" : "until", number(0, 4));
            case 16: return call("neighbour", address());
            case 17: return call("sizeTo", address());
            case 18: return call("outKind", number(0, 11));
            default: return call(below(2) == 0 ? "outTo" : "outX", number(0, 11));
        }
    }

    private static List<AnyCall> draw(int howMany, boolean tentativeAtFirst) {
        List<AnyCall> calls = new ArrayList<>();
        if (!tentativeAtFirst) {
            calls.add(call("tick", 2));
        }
        while (calls.size() < howMany) {
            calls.add(drawOne());
        }
        return calls;
    }

    private static String outcome(LinkHost host, AnyCall call) {
        try {
            return String.valueOf(call.make(host));
        } catch (RuntimeException e) {
            return e.getClass().getSimpleName();
        }
    }

    private static void throwsOnlyAsTheDocumentSays(int id, List<AnyCall> calls) {
        check.under("LANGUAGE.md, rules 6 and 7");
        LinkHost host = new LinkHost(id);
        for (AnyCall call : calls) {
            check.throwsAtMost(call.name(), () -> call.make(host), call::mayThrow);
        }
    }

    /** Behind the 512th call answers are free, but not what rule 7 forbids. */
    private static void lateCallsThrowNothingElse() {
        drawn = 77;
        throwsOnlyAsTheDocumentSays(7, draw(50000, false));
    }

    private static void refusedCallsChangeNothing(int id, List<AnyCall> calls) {
        check.under("a call that throws does nothing else");
        LinkHost all = new LinkHost(id);
        LinkHost right = new LinkHost(id);
        for (AnyCall call : calls) {
            if (!outcome(all, call).endsWith("Exception")) {
                call.make(right);
            }
        }
        check.same("without the refused calls", seen(right), seen(all));
    }

    private static void readingCallsChangeNothing(int id, List<AnyCall> calls) {
        check.under("count, own, until, neighbour, sizeTo, outKind, outTo, outX change nothing");
        LinkHost all = new LinkHost(id);
        LinkHost unread = new LinkHost(id);
        for (AnyCall call : calls) {
            outcome(all, call);
            if (!call.isReading()) {
                outcome(unread, call);
            }
        }
        check.same("without the reading calls", seen(unread), seen(all));
    }

    /** Two with the same calls and, between them, one with others. */
    private static void sameCallsSameAnswers(int id, List<AnyCall> calls) {
        check.under("LANGUAGE.md, rule 13: the same calls always give the same answers");
        LinkHost one = new LinkHost(id);
        LinkHost other = new LinkHost(id + 1);
        LinkHost twin = new LinkHost(id);
        for (int i = 0; i < calls.size(); i++) {
            String answer = outcome(one, calls.get(i));
            outcome(other, calls.get(calls.size() - 1 - i));
            check.same(calls.get(i).name(), outcome(twin, calls.get(i)), answer);
        }
        check.same("the twin", seen(twin), seen(one));
    }

    private static void rowsKeepTheirLimits(int id, List<AnyCall> calls) {
        check.under("(at most 5) .. (at most 3) .. (at most 4) .. (at most 6) .. up to 3");
        LinkHost host = new LinkHost(id);
        for (int i = 0; i < CALLS_WITH_LIMITS; i++) {
            outcome(host, calls.get(i));
            for (int which = 0; which < LIMITS.length; which++) {
                int most = LIMITS[which];
                if (most != 0) {
                    int held = host.count(which);
                    check.holds("count(" + which + ") of " + held, held >= 0 && held <= most);
                }
            }
        }
    }

    /** All that can be seen of a host, and then how many headers it has. */
    private static String seen(LinkHost host) {
        String all = Hosts.seen(host, 257, 258, 259, 260, 261, 262, 263, 264, 513, 514, 1281);
        return all + ", headers " + outcome(host, call("header", 1, 0));
    }
}
