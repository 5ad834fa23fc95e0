/** Promise 5: asked. */
public final class AskedTest {
    private static final Check check = new Check("AskedTest");
    private static final int OWN = Hosts.local(7);
    private static final int ASKER = Hosts.local(9);

    public static void main(String[] args) {
        findsDuplicates();
        tellsTheGroup();
        tellsTheAsker();
        changesTheAsker();
        doesNothingElse();
        refusesWrongArguments();
        refusesWhileDown();
        check.end();
    }

    private static void findsDuplicates() {
        check.under("ASKED for an address t by s: s NONE: if t is an own one: tentative: it is "
                + "duplicate");
        LinkHost host = new LinkHost(7);
        host.tick(1);
        host.asked(0, OWN, 3);
        check.due("duplicate", host.own(0), Hosts.owned(Hosts.DUPLICATE, OWN));
        check.due("down", host.count(11), 1);
        check.due("nothing is told", host.count(6), 2);
        LinkHost other = Hosts.ready(7);
        other.prefix(5, 2, 100, 100);
        other.asked(0, Hosts.address(5, 7), 3);
        check.due("duplicate", other.own(1), Hosts.owned(Hosts.DUPLICATE, Hosts.address(5, 7)));
        check.due("not down", other.count(11), 0);
        other.tick(2);
        check.due("probed no more", other.count(6), 3);
        check.due("duplicate still", other.own(1),
                Hosts.owned(Hosts.DUPLICATE, Hosts.address(5, 7)));
    }

    private static void tellsTheGroup() {
        check.under("usable: TOLD to GROUP.");
        LinkHost host = Hosts.ready(7);
        host.asked(0, OWN, 3);
        check.out("told", host, 0, 3, Hosts.GROUP, OWN);
        check.due("preferred still", host.own(0), Hosts.owned(Hosts.PREFERRED, OWN));
        check.due("no neighbour is made", host.count(4), 0);
        host.prefix(5, 2, 100, 0);
        host.tick(2);
        host.asked(0, Hosts.address(5, 7), 3);
        check.out("a deprecated one, too", host, 0, 3, Hosts.GROUP, Hosts.address(5, 7));
    }

    private static void tellsTheAsker() {
        check.under("and TOLD to s. TOLD is kind 3, X is t.");
        LinkHost host = Hosts.ready(7);
        host.asked(ASKER, OWN, 3);
        check.out("told", host, 0, 3, ASKER, OWN);
        check.due("sent", host.count(6), 3);
        check.due("stale", host.neighbour(ASKER), Hosts.known(Hosts.STALE, 3));
        host.prefix(5, 2, 100, 0);
        host.tick(2);
        host.asked(Hosts.address(8, 9), Hosts.address(5, 7), 4);
        check.out("a deprecated one, too", host, 0, 3, Hosts.address(8, 9), Hosts.address(5, 7));
        check.due("any address", host.neighbour(Hosts.address(8, 9)), Hosts.known(Hosts.STALE, 4));
    }

    private static void changesTheAsker() {
        check.under("a neighbour s is made or changed by the link number, as with routers (but "
                + "whether it is a router is as it was, at first not)");
        LinkHost host = Hosts.ready(7);
        host.send(ASKER, 12);
        host.asked(ASKER, OWN, 3);
        check.out("what waits goes first", host, 1, 4, ASKER, 12);
        check.out("then it is told", host, 0, 3, ASKER, OWN);
        check.due("in delay", host.neighbour(ASKER), Hosts.known(Hosts.DELAY, 3));
        host.asked(ASKER, OWN, 3);
        check.due("the same number", host.neighbour(ASKER), Hosts.known(Hosts.DELAY, 3));
        host.asked(ASKER, OWN, 4);
        check.due("another number", host.neighbour(ASKER), Hosts.known(Hosts.STALE, 4));
        check.due("one neighbour", host.count(4), 1);
        host.router(9, 4, 100, 0);
        host.asked(ASKER, OWN, 5);
        check.due("a router stays one", host.neighbour(ASKER),
                Hosts.known(Hosts.STALE, 5) + Hosts.ROUTER);
    }

    private static void doesNothingElse() {
        check.under("Asked for t by s (NONE or an address) with a link number.");
        LinkHost host = new LinkHost(7);
        host.asked(ASKER, OWN, 3);
        check.due("tentative", host.own(0), Hosts.owned(Hosts.TENTATIVE, OWN));
        check.due("no neighbour", host.count(4), 0);
        host.tick(2);
        host.prefix(5, 2, 100, 100);
        host.asked(0, Hosts.address(5, 7), 3);
        int sent = host.count(6);
        host.asked(0, Hosts.address(5, 7), 3);
        host.asked(ASKER, Hosts.address(5, 7), 3);
        host.asked(0, Hosts.local(8), 3);
        host.asked(ASKER, Hosts.local(8), 3);
        host.asked(ASKER, Hosts.address(6, 7), 3);
        check.due("nothing is sent", host.count(6), sent);
        check.due("no neighbour", host.count(4), 0);
    }

    private static void refusesWrongArguments() {
        check.under("IllegalArgumentException: t or s is no address (s may be NONE), or there is "
                + "no such number.");
        int[][] wrong = {
            {0, 0, 1}, {0, 255, 1}, {0, 256, 1}, {0, 511, 1}, {0, Hosts.GROUP, 1}, {0, -257, 1},
            {0, Hosts.address(251, 1), 1}, {0, Hosts.address(0, 7), 1},
            {-1, OWN, 1}, {255, OWN, 1}, {256, OWN, 1}, {Hosts.GROUP, OWN, 1},
            {Hosts.address(251, 1), OWN, 1}, {Hosts.address(2, 255), OWN, 1},
            {0, OWN, 0}, {0, OWN, 100}, {0, OWN, -1},
        };
        LinkHost host = Hosts.ready(7);
        LinkHost down = Hosts.down(7);
        for (int[] w : wrong) {
            String call = "asked(" + w[0] + ", " + w[1] + ", " + w[2] + ")";
            check.badArgument(call, () -> host.asked(w[0], w[1], w[2]));
            check.badArgument(call + " while down", () -> down.asked(w[0], w[1], w[2]));
        }
        check.due("nothing is sent", host.count(6), 2);
        host.asked(Hosts.address(250, 254), OWN, 99);
        host.asked(Hosts.local(1), OWN, 1);
        check.due("the edges are right", host.count(4), 2);
    }

    private static void refusesWhileDown() {
        check.under("IllegalStateException: the host is down.");
        LinkHost down = Hosts.down(7);
        check.badState("asked by NONE", () -> down.asked(0, OWN, 3));
        check.badState("asked", () -> down.asked(ASKER, OWN, 3));
        check.due("nothing is sent", down.count(6), 1);
    }
}
