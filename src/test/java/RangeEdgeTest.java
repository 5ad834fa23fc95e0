/**
 * Every sentence that names an exception, for arguments with a range: both edges, one step beyond
 * each, the least and the greatest int; on a host that is up and on one that is down.
 */
public final class RangeEdgeTest {
    private static final Check check = new Check("RangeEdgeTest");
    private static final int OWN = Hosts.local(7);
    private static final int FRIEND = Hosts.local(9);
    private static final int STRANGER = Hosts.local(10);

    private interface Call {
        void make(LinkHost host, int[] arguments);
    }

    public static void main(String[] args) {
        newObject();
        tick();
        router();
        prefix();
        asked();
        told();
        send();
        smaller();
        header();
        count();
        check.end();
    }

    private static void newObject() {
        check.under("A host with an id (at least 1, at most 254)");
        int[][] idsAndDue = {
            {1, 1}, {2, 2}, {253, 253}, {254, 254}, {0, 1}, {-1, 1}, {255, 254}, {256, 254},
            {257, 254}, {-254, 1}, {65536, 254}, {Integer.MIN_VALUE, 1},
            {Integer.MIN_VALUE + 1, 1}, {Integer.MAX_VALUE - 1, 254}, {Integer.MAX_VALUE, 254},
        };
        for (int[] pair : idsAndDue) {
            LinkHost host = Hosts.ready(pair[0]);
            String what = "id " + pair[0];
            check.due(what, host.own(0), Hosts.owned(Hosts.PREFERRED, Hosts.local(pair[1])));
            check.out(what, host, 0, 1, Hosts.GROUP, Hosts.local(pair[1]));
            host.prefix(250, 2, 10, 10);
            check.due(what + ": formed", host.own(1),
                    Hosts.owned(Hosts.TENTATIVE, Hosts.address(250, pair[1])));
        }
    }

    private static void tick() {
        check.under("IllegalArgumentException: n is not 1 .. 100.");
        Call call = (host, a) -> host.tick(a[0]);
        goesThroughWhileDown("tick", call, new int[] {1}, 0, 1, 100);
    }

    private static void router() {
        Call call = (host, a) -> host.router(a[0], a[1], a[2], a[3]);
        int[] right = {10, 3, 50, 20};
        check.under("IllegalArgumentException: id is not 1 .. 254");
        refusedWhileDown("router", call, right, 0, 1, 254);
        check.under("or number not 1 .. 99");
        refusedWhileDown("router", call, right, 1, 1, 99);
        check.under("life not 0 .. 1000");
        refusedWhileDown("router", call, right, 2, 0, 1000);
        check.under("or size not 0 .. 99.");
        refusedWhileDown("router", call, right, 3, 0, 99);
    }

    private static void prefix() {
        Call call = (host, a) -> host.prefix(a[0], a[1], a[2], a[3]);
        int[] right = {11, 3, 50, 20};
        check.under("IllegalArgumentException: the prefix is not 1 .. 250");
        refusedWhileDown("prefix", call, right, 0, 1, 250);
        check.under("the flags are not 0 .. 3");
        refusedWhileDown("prefix", call, right, 1, 0, 3);
        check.under("or a life not 0 .. 1000.");
        refusedWhileDown("prefix", call, right, 2, 0, 1000);
        refusedWhileDown("prefix", call, right, 3, 0, 1000);
    }

    private static void asked() {
        Call call = (host, a) -> host.asked(a[0], a[1], a[2]);
        check.under("or there is no such number.");
        refusedWhileDown("asked", call, new int[] {STRANGER, OWN, 3}, 2, 1, 99);
        refusedWhileDown("asked by NONE", call, new int[] {Hosts.NONE, OWN, 3}, 2, 1, 99);
        refusedWhileDown("asked for none", call, new int[] {STRANGER, STRANGER, 3}, 2, 1, 99);
    }

    private static void told() {
        Call call = (host, a) -> host.told(a[0], a[1], a[2]);
        int[] right = {FRIEND, 3, 7};
        check.under("there is no such number");
        refusedWhileDown("told", call, right, 1, 1, 99);
        refusedWhileDown("told of a stranger", call, new int[] {STRANGER, 3, 7}, 1, 1, 99);
        check.under("or the flags are out of range.");
        refusedWhileDown("told", call, right, 2, 0, 7);
        refusedWhileDown("told of a stranger", call, new int[] {STRANGER, 3, 7}, 2, 0, 7);
    }

    private static void send() {
        Call call = (host, a) -> host.send(a[0], a[1]);
        check.under("or the size not 1 .. 40.");
        refusedWhileDown("send", call, new int[] {FRIEND, 5}, 1, 1, 40);
        refusedWhileDown("send far", call, new int[] {Hosts.address(20, 9), 5}, 1, 1, 40);
    }

    private static void smaller() {
        Call call = (host, a) -> host.smaller(a[0], a[1]);
        check.under("or size not 0 .. 40.");
        refusedWhileDown("smaller", call, new int[] {FRIEND, 5}, 1, 0, 40);
    }

    private static void header() {
        Call call = (host, a) -> host.header(a[0], a[1]);
        check.under("IllegalArgumentException: there is no such kind or number");
        goesThroughWhileDown("header", call, new int[] {6, 0}, 0, 0, 9);
        goesThroughWhileDown("header", call, new int[] {6, 0}, 1, 0, 3);
    }

    private static void count() {
        Call call = (host, a) -> host.count(a[0]);
        check.under("IllegalArgumentException: any other number.");
        goesThroughWhileDown("count", call, new int[] {0}, 0, 0, 11);
    }

    /** For a call that throws IllegalStateException while the host is down. */
    private static void refusedWhileDown(String name, Call call, int[] right, int which, int least,
            int most) {
        goesThroughWithin(name, call, right, which, least, most);
        refusedBeyond(name, call, right, which, least, most);
        for (int value : within(least, most)) {
            int[] arguments = with(right, which, value);
            LinkHost down = downWithFriend();
            String before = seen(down);
            check.badState(told(name, arguments) + " while down",
                    () -> call.make(down, arguments));
            check.same("while down", seen(down), before);
        }
    }

    /** For a call that a host that is down does not refuse. */
    private static void goesThroughWhileDown(String name, Call call, int[] right, int which,
            int least, int most) {
        goesThroughWithin(name, call, right, which, least, most);
        refusedBeyond(name, call, right, which, least, most);
        for (int value : within(least, most)) {
            int[] arguments = with(right, which, value);
            LinkHost down = downWithFriend();
            check.goesThrough(told(name, arguments) + " while down",
                    () -> call.make(down, arguments));
        }
    }

    private static void goesThroughWithin(String name, Call call, int[] right, int which, int least,
            int most) {
        for (int value : within(least, most)) {
            int[] arguments = with(right, which, value);
            LinkHost host = upWithFriend();
            check.goesThrough(told(name, arguments), () -> call.make(host, arguments));
        }
    }

    private static void refusedBeyond(String name, Call call, int[] right, int which, int least,
            int most) {
        LinkHost host = upWithFriend();
        LinkHost down = downWithFriend();
        String before = seen(host);
        String beforeDown = seen(down);
        for (int value : beyond(least, most)) {
            int[] arguments = with(right, which, value);
            check.badArgument(told(name, arguments), () -> call.make(host, arguments));
            check.badArgument(told(name, arguments) + " while down",
                    () -> call.make(down, arguments));
        }
        check.same("after " + name, seen(host), before);
        check.same("after " + name + " while down", seen(down), beforeDown);
        check.due("no header came by " + name, host.header(6, 0), 1);
        check.due("no header came by " + name + " while down", down.header(6, 0), 1);
    }

    private static int[] within(int least, int most) {
        return new int[] {least, least + 1, most - 1, most};
    }

    /** The values 256 and 65536 off would be right ones for who looks at some of the bits only. */
    private static int[] beyond(int least, int most) {
        return new int[] {
            least - 1, most + 1, least - 2, most + 2, least - 256, least + 65536, least - 65536,
            Integer.MIN_VALUE, Integer.MIN_VALUE + 1, Integer.MIN_VALUE + least,
            Integer.MIN_VALUE + most, Integer.MAX_VALUE - 1, Integer.MAX_VALUE,
        };
    }

    private static int[] with(int[] right, int which, int value) {
        int[] arguments = right.clone();
        arguments[which] = value;
        return arguments;
    }

    private static String told(String name, int[] arguments) {
        StringBuilder text = new StringBuilder(name);
        char before = '(';
        for (int argument : arguments) {
            text.append(before).append(argument);
            before = ',';
        }
        return text.append(')').toString();
    }

    /** With one of each row, so that a refused call has something that it could change. */
    private static void fill(LinkHost host) {
        host.router(9, 4, 100, 30);
        host.prefix(5, 3, 100, 50);
        host.smaller(FRIEND, 25);
        host.smaller(Hosts.address(20, 9), 25);
    }

    private static LinkHost upWithFriend() {
        LinkHost host = Hosts.ready(7);
        fill(host);
        host.tick(2);
        host.header(7, 0);
        host.come(FRIEND, OWN);
        return host;
    }

    private static LinkHost downWithFriend() {
        LinkHost host = new LinkHost(7);
        fill(host);
        host.told(OWN, 3, 0);
        return host;
    }

    private static String seen(LinkHost host) {
        return Hosts.seen(host, FRIEND, STRANGER, Hosts.address(20, 9));
    }
}
