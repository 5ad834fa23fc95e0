/** Promise 6: told. */
public final class ToldTest {
    private static final Check check = new Check("ToldTest");
    private static final int ROUTER = 1;
    private static final int ASKED = 2;
    private static final int OVERRIDE = 4;
    private static final int FRIEND = Hosts.local(9);

    public static void main(String[] args) {
        findsDuplicates();
        answersTheSearch();
        changesAKnownNeighbour();
        leavesAnotherNumberAlone();
        countsReachabilityAnew();
        takesFromTheRouters();
        doesNothingForStrangers();
        refusesWrongArguments();
        refusesWhileDown();
        check.end();
    }

    private static void findsDuplicates() {
        check.under("if t is an own tentative one, it is duplicate; otherwise, for a neighbour t:");
        LinkHost host = new LinkHost(7);
        host.told(Hosts.local(7), 3, 0);
        check.due("duplicate", host.own(0), Hosts.owned(Hosts.DUPLICATE, Hosts.local(7)));
        check.due("down", host.count(11), 1);
        LinkHost other = Hosts.ready(7);
        int formed = Hosts.address(5, 7);
        other.prefix(5, 3, 100, 100);
        other.asked(formed, Hosts.local(7), 3);
        other.told(formed, 4, OVERRIDE);
        check.due("duplicate", other.own(1), Hosts.owned(Hosts.DUPLICATE, formed));
        check.due("not down", other.count(11), 0);
        check.due("and nothing else", other.neighbour(formed), Hosts.known(Hosts.STALE, 3));
        other.told(formed, 4, OVERRIDE | ASKED);
        check.due("a duplicate one may be a neighbour", other.neighbour(formed),
                Hosts.known(Hosts.REACHABLE, 4));
        other.told(Hosts.local(7), 4, 0);
        check.due("preferred still", other.own(0), Hosts.owned(Hosts.PREFERRED, Hosts.local(7)));
    }

    private static void answersTheSearch() {
        check.under("if it is sought: it has the number, is reachable if ASKED, else stale, and "
                + "what waits is sent.");
        for (int flags = 0; flags <= 7; flags++) {
            LinkHost host = Hosts.ready(7);
            host.send(FRIEND, 5);
            host.send(FRIEND, 6);
            host.tick(1);
            host.told(FRIEND, 44, flags);
            check.out("the later packet, flags " + flags, host, 0, 4, FRIEND, 6);
            check.due("no other one", host.count(6), 5);
            int state = (flags & ASKED) != 0 ? Hosts.REACHABLE : Hosts.DELAY;
            check.due("flags " + flags, host.neighbour(FRIEND),
                    Hosts.known(state, 44) + ((flags & ROUTER) != 0 ? Hosts.ROUTER : 0));
            check.due("no router by that", host.count(2), 0);
            host.tick(2);
            check.due("not lost", host.count(7), 0);
        }
    }

    /** A neighbour with number 3 in the given state. */
    private static LinkHost withFriend(int state) {
        LinkHost host = Hosts.ready(7);
        host.asked(FRIEND, Hosts.local(7), 3);
        if (state == Hosts.REACHABLE) {
            host.told(FRIEND, 3, ASKED);
        }
        if (state == Hosts.DELAY || state == Hosts.PROBED) {
            host.send(FRIEND, 5);
        }
        if (state == Hosts.PROBED) {
            host.tick(5);
        }
        check.due("state", host.neighbour(FRIEND), Hosts.known(state, 3));
        return host;
    }

    private static void changesAKnownNeighbour() {
        check.under("Else: it has the number; it is reachable if ASKED, otherwise stale if the "
                + "number was another one.");
        for (int state = Hosts.REACHABLE; state <= Hosts.PROBED; state++) {
            for (int flags = 0; flags <= 7; flags++) {
                int router = (flags & ROUTER) != 0 ? Hosts.ROUTER : 0;
                boolean asked = (flags & ASKED) != 0;
                String what = "state " + state + ", flags " + flags;
                LinkHost same = withFriend(state);
                int sent = same.count(6);
                same.told(FRIEND, 3, flags);
                check.due(what + ", same number", same.neighbour(FRIEND),
                        Hosts.known(asked ? Hosts.REACHABLE : state, 3) + router);
                check.due("nothing is sent", same.count(6), sent);
                if ((flags & OVERRIDE) != 0) {
                    LinkHost other = withFriend(state);
                    other.told(FRIEND, 4, flags);
                    check.due(what + ", another number", other.neighbour(FRIEND),
                            Hosts.known(asked ? Hosts.REACHABLE : Hosts.STALE, 4) + router);
                }
            }
        }
    }

    private static void leavesAnotherNumberAlone() {
        check.under("Else, if the number is another one without OVERRIDE: it is stale if it was "
                + "reachable, and nothing else.");
        for (int state = Hosts.REACHABLE; state <= Hosts.PROBED; state++) {
            for (int flags = 0; flags <= 3; flags++) {
                LinkHost host = withFriend(state);
                host.told(FRIEND, 4, flags);
                check.due("state " + state + ", flags " + flags, host.neighbour(FRIEND),
                        Hosts.known(state == Hosts.REACHABLE ? Hosts.STALE : state, 3));
            }
        }
        LinkHost host = Hosts.ready(7);
        host.router(9, 3, 100, 0);
        host.told(FRIEND, 4, 0);
        check.due("it stays a router", host.neighbour(FRIEND),
                Hosts.known(Hosts.STALE, 3) + Hosts.ROUTER);
        check.due("and among them", host.count(2), 1);
    }

    private static void countsReachabilityAnew() {
        check.under("A reachable one is stale 10 ticks after it became so (the last time).");
        LinkHost host = withFriend(Hosts.PROBED);
        host.told(FRIEND, 3, ASKED);
        host.tick(9);
        check.due("nine ticks", host.neighbour(FRIEND), Hosts.known(Hosts.REACHABLE, 3));
        host.tick(1);
        check.due("ten ticks", host.neighbour(FRIEND), Hosts.known(Hosts.STALE, 3));
        LinkHost probed = withFriend(Hosts.PROBED);
        probed.tick(1);
        probed.told(FRIEND, 3, 0);
        probed.tick(2);
        check.due("without ASKED it is given up in time", probed.neighbour(FRIEND), 0);
    }

    private static void takesFromTheRouters() {
        check.under("In the first and the third case it is a router or not as told; and if it was "
                + "one and is none, it goes from the routers, too.");
        LinkHost host = Hosts.ready(7);
        host.router(9, 3, 100, 0);
        host.router(10, 4, 100, 0);
        host.told(FRIEND, 3, ROUTER);
        check.due("told to be one", host.count(2), 2);
        host.told(FRIEND, 3, 0);
        check.due("told to be none", host.count(2), 1);
        check.due("it is none", host.neighbour(FRIEND), Hosts.known(Hosts.STALE, 3));
        check.due("the other one is", host.neighbour(Hosts.local(10)),
                Hosts.known(Hosts.STALE, 4) + Hosts.ROUTER);
        host.told(FRIEND, 3, ROUTER);
        check.due("marked again", host.neighbour(FRIEND),
                Hosts.known(Hosts.STALE, 3) + Hosts.ROUTER);
        check.due("but not among them", host.count(2), 1);
        host.told(Hosts.local(10), 5, OVERRIDE);
        check.due("another number with OVERRIDE", host.count(2), 0);
    }

    private static void doesNothingForStrangers() {
        check.under("Heard that t has a link number, with flags 0 .. 7.");
        LinkHost host = Hosts.ready(7);
        host.told(FRIEND, 3, 7);
        check.due("no neighbour", host.count(4), 0);
        check.due("nothing is sent", host.count(6), 2);
    }

    private static void refusesWrongArguments() {
        check.under("IllegalArgumentException: t is no address, there is no such number, or the "
                + "flags are out of range.");
        int[][] wrong = {
            {0, 1, 0}, {255, 1, 0}, {256, 1, 0}, {511, 1, 0}, {Hosts.GROUP, 1, 0}, {-1, 1, 0},
            {Hosts.address(251, 1), 1, 0}, {FRIEND, 0, 0}, {FRIEND, 100, 0}, {FRIEND, 1, -1},
            {FRIEND, 1, 8},
        };
        LinkHost host = Hosts.ready(7);
        LinkHost down = Hosts.down(7);
        for (int[] w : wrong) {
            String call = "told(" + w[0] + ", " + w[1] + ", " + w[2] + ")";
            check.badArgument(call, () -> host.told(w[0], w[1], w[2]));
            check.badArgument(call + " while down", () -> down.told(w[0], w[1], w[2]));
        }
        host.told(Hosts.local(1), 1, 0);
        host.told(Hosts.address(250, 254), 99, 7);
    }

    private static void refusesWhileDown() {
        check.under("IllegalStateException: the host is down.");
        LinkHost down = Hosts.down(7);
        check.badState("told", () -> down.told(FRIEND, 3, 0));
    }
}
