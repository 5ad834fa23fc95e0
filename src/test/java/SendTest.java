/** Promise 7: send. */
public final class SendTest {
    private static final Check check = new Check("SendTest");
    private static final int SENT = 0;
    private static final int WAITS = 1;
    private static final int TOO_GREAT = 2;
    private static final int NO_WAY = 3;
    private static final int NO_ADDRESS = 4;
    private static final int FRIEND = Hosts.local(9);
    private static final int FAR = Hosts.address(20, 9);

    public static void main(String[] args) {
        needsAnAddressOfItsOwn();
        isNotTooGreat();
        needsAWay();
        theFirstThatHolds();
        waitsForANeighbour();
        goesToAKnownNeighbour();
        picksTheRouter();
        seeksARouterAgain();
        keepsSixNeighbours();
        refusesWrongArguments();
        refusesWhileDown();
        check.end();
    }

    private static void needsAnAddressOfItsOwn() {
        check.under("4 NO ADDRESS: no own address is usable that is local (if it goes to LOCAL) "
                + "or not local (else).");
        LinkHost host = new LinkHost(7);
        host.router(10, 3, 100, 0);
        check.due("tentative", host.send(FRIEND, 5), NO_ADDRESS);
        host.tick(2);
        check.due("local", host.send(FRIEND, 5), WAITS);
        check.due("not local", host.send(FAR, 5), NO_ADDRESS);
        host.prefix(5, 2, 100, 0);
        host.tick(1);
        check.due("tentative", host.send(FAR, 5), NO_ADDRESS);
        host.tick(1);
        check.due("deprecated", host.send(FAR, 5), SENT);
        host.tick(98);
        check.due("taken away", host.send(FAR, 5), NO_ADDRESS);
        host.prefix(5, 2, 100, 100);
        host.told(Hosts.address(5, 7), 1, 0);
        host.tick(2);
        check.due("duplicate", host.send(FAR, 5), NO_ADDRESS);
        LinkHost early = new LinkHost(7);
        early.prefix(5, 3, 100, 100);
        early.prefix(6, 3, 100, 100);
        early.told(Hosts.address(5, 7), 1, 0);
        early.tick(2);
        check.due("another one will do", early.send(Hosts.address(5, 9), 5), WAITS);
    }

    private static void isNotTooGreat() {
        check.under("2 TOO GREAT: the size is more than the path's size to that address (the "
                + "link's size if there is none, or that is less).");
        LinkHost host = Hosts.ready(7);
        check.due("40", host.send(FRIEND, 40), WAITS);
        host.router(10, 3, 100, 20);
        check.due("the link's size", host.send(FRIEND, 20), WAITS);
        check.due("more than the link's size", host.send(FRIEND, 21), TOO_GREAT);
        host.smaller(FRIEND, 15);
        check.due("the path's size", host.send(FRIEND, 15), WAITS);
        check.due("more than the path's size", host.send(FRIEND, 16), TOO_GREAT);
        check.due("another path", host.send(Hosts.local(11), 20), WAITS);
        host.router(10, 3, 100, 10);
        check.due("the link's is less", host.send(FRIEND, 11), TOO_GREAT);
        check.due("the link's is less", host.send(FRIEND, 10), WAITS);
        check.due("the least", host.send(FRIEND, 1), WAITS);
    }

    private static void needsAWay() {
        check.under("3 NO WAY: it does not go to LOCAL, nor to an on-link prefix, and there is no "
                + "router.");
        LinkHost host = Hosts.withPrefix(7);
        check.due("no router", host.send(FAR, 5), NO_WAY);
        check.due("local", host.send(FRIEND, 5), WAITS);
        check.due("on-link", host.send(Hosts.address(5, 9), 5), WAITS);
        host.router(10, 3, 5, 0);
        check.due("by the router", host.send(FAR, 5), SENT);
        check.due("by itself", host.send(Hosts.address(5, 9), 5), WAITS);
        host.tick(5);
        check.due("its life is over", host.send(FAR, 5), NO_WAY);
        LinkHost formed = Hosts.ready(7);
        formed.prefix(5, 2, 100, 100);
        formed.tick(2);
        check.due("an own prefix is not on-link by that", formed.send(Hosts.address(5, 9), 5),
                NO_WAY);
    }

    private static void theFirstThatHolds() {
        check.under("TO SEND a packet of a size to an address: the first that holds:");
        LinkHost host = Hosts.ready(7);
        host.router(10, 3, 0, 10);
        check.due("no address before too great", host.send(FAR, 11), NO_ADDRESS);
        host.prefix(5, 2, 100, 100);
        host.tick(2);
        check.due("too great before no way", host.send(FAR, 11), TOO_GREAT);
        check.due("no way", host.send(FAR, 10), NO_WAY);
        int sent = host.count(6);
        check.due("too great before waits", host.send(FRIEND, 11), TOO_GREAT);
        check.due("nothing is sent", host.count(6), sent);
        check.due("no neighbour is made", host.neighbour(FRIEND), 0);
    }

    private static void waitsForANeighbour() {
        check.under("1 WAITS: the hop's neighbour is sought, or is made so.");
        LinkHost host = Hosts.ready(7);
        check.due("waits", host.send(FRIEND, 5), WAITS);
        check.out("asked for", host, 0, 2, Hosts.GROUP, FRIEND);
        check.due("sought", host.neighbour(FRIEND), Hosts.SOUGHT + Hosts.WAITS);
        check.due("a later one", host.send(FRIEND, 6), WAITS);
        check.due("asked for once", host.count(6), 3);
        host.tick(3);
        check.due("one is lost", host.count(7), 1);
        check.due("sought anew", host.send(FRIEND, 6), WAITS);
        check.out("asked for", host, 0, 2, Hosts.GROUP, FRIEND);
    }

    private static void goesToAKnownNeighbour() {
        check.under("0 SENT: it is sent to the hop's neighbour.");
        LinkHost host = Hosts.ready(7);
        host.send(FRIEND, 5);
        host.told(FRIEND, 3, 2);
        check.due("reachable", host.send(FRIEND, 17), SENT);
        check.out("sent", host, 0, 4, FRIEND, 17);
        check.due("reachable still", host.neighbour(FRIEND), Hosts.known(Hosts.REACHABLE, 3));
        host.tick(10);
        check.due("stale", host.send(FRIEND, 18), SENT);
        check.due("in delay", host.neighbour(FRIEND), Hosts.known(Hosts.DELAY, 3));
        check.due("in delay", host.send(FRIEND, 19), SENT);
        host.tick(5);
        check.due("probed", host.send(FRIEND, 20), SENT);
        check.out("sent", host, 0, 4, FRIEND, 20);
        check.due("probed still", host.neighbour(FRIEND), Hosts.known(Hosts.PROBED, 3));
    }

    private static void picksTheRouter() {
        check.under("The HOP is the address itself, or the first router whose neighbour is there "
                + "and not sought, else the first router.");
        LinkHost host = Hosts.withPrefix(7);
        int first = Hosts.local(10);
        int second = Hosts.local(11);
        host.router(10, 3, 1000, 0);
        host.send(first, 5);
        host.tick(8);
        check.due("the first one's neighbour is gone", host.neighbour(first), 0);
        host.router(11, 4, 1000, 0);
        check.due("by the second one", host.send(FAR, 12), SENT);
        check.out("sent", host, 0, 4, second, 12);
        host.send(first, 5);
        check.due("the first one is sought", host.neighbour(first),
                Hosts.SOUGHT + Hosts.WAITS);
        check.due("by the second one", host.send(FAR, 13), SENT);
        check.out("sent", host, 0, 4, second, 13);
        host.told(first, 3, 3);
        check.due("by the first one", host.send(FAR, 14), SENT);
        check.out("sent", host, 0, 4, first, 14);
    }

    private static void seeksARouterAgain() {
        check.under("else the first router. 1 WAITS: the hop's neighbour is sought, or is made "
                + "so.");
        LinkHost host = Hosts.withPrefix(7);
        int first = Hosts.local(10);
        host.router(10, 3, 1000, 0);
        host.router(11, 4, 1000, 0);
        host.send(first, 5);
        host.send(Hosts.local(11), 5);
        host.tick(8);
        check.due("both are gone", host.count(4), 0);
        check.due("the first one is sought", host.send(FAR, 12), WAITS);
        check.due("by its own address", host.neighbour(first), Hosts.SOUGHT + Hosts.WAITS);
        check.out("asked for", host, 0, 2, Hosts.GROUP, first);
        check.due("and again", host.send(FAR, 13), WAITS);
        check.due("one neighbour", host.count(4), 1);
        host.told(first, 3, 3);
        check.out("what waited is sent", host, 0, 4, first, 13);
    }

    private static void keepsSixNeighbours() {
        check.under("when one more comes to a full row, the first one goes (a packet that waits "
                + "for it is not counted).");
        LinkHost host = Hosts.ready(7);
        for (int id = 10; id <= 16; id++) {
            host.send(Hosts.local(id), 5);
        }
        check.due("six", host.count(4), 6);
        check.due("the first one went", host.neighbour(Hosts.local(10)), 0);
        check.due("the second is there", host.neighbour(Hosts.local(11)),
                Hosts.SOUGHT + Hosts.WAITS);
        check.due("not counted as lost", host.count(7), 0);
        host.asked(Hosts.local(17), Hosts.local(7), 3);
        check.due("the next one went", host.neighbour(Hosts.local(11)), 0);
        host.router(18, 3, 100, 0);
        check.due("and the next", host.neighbour(Hosts.local(12)), 0);
        check.due("six", host.count(4), 6);
        host.tick(3);
        check.due("four were lost", host.count(7), 4);
        check.due("two are left", host.count(4), 2);
    }

    private static void refusesWrongArguments() {
        check.under("IllegalArgumentException: to is no address, or the size not 1 .. 40.");
        int[][] wrong = {
            {0, 5}, {255, 5}, {256, 5}, {511, 5}, {Hosts.GROUP, 5}, {-1, 5}, {-265, 5},
            {Hosts.address(251, 1), 5}, {FRIEND, 0}, {FRIEND, 41}, {FRIEND, -1},
        };
        LinkHost host = Hosts.ready(7);
        LinkHost down = Hosts.down(7);
        for (int[] w : wrong) {
            String call = "send(" + w[0] + ", " + w[1] + ")";
            check.badArgument(call, () -> host.send(w[0], w[1]));
            check.badArgument(call + " while down", () -> down.send(w[0], w[1]));
        }
        check.due("no neighbour", host.count(4), 0);
        check.due("the edges are right", host.send(Hosts.local(1), 1), WAITS);
        check.due("the edges are right", host.send(Hosts.local(254), 40), WAITS);
        check.due("the edges are right", host.send(Hosts.address(250, 254), 40), NO_ADDRESS);
    }

    private static void refusesWhileDown() {
        check.under("IllegalStateException: the host is down.");
        LinkHost down = Hosts.down(7);
        check.badState("send", () -> down.send(FRIEND, 5));
        check.due("no neighbour", down.count(4), 0);
    }
}
