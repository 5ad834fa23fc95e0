/** The way of a packet: with no router, one, two and three, in each state of their neighbours. */
public final class HopEdgeTest {
    private static final Check check = new Check("HopEdgeTest");
    private static final int OWN = Hosts.local(7);
    private static final int FAR = Hosts.address(20, 9);
    private static final int GONE = 0;
    private static final int SOUGHT = 1;
    private static final int KNOWN = 2;

    public static void main(String[] args) {
        noRouter();
        picksAmongRouters();
        eachKnownStateWillDo();
        onLinkEdges();
        check.end();
    }

    private static void noRouter() {
        check.under("3 NO WAY: it does not go to LOCAL, nor to an on-link prefix, and there is no "
                + "router.");
        LinkHost host = Hosts.withPrefix(7);
        check.due("no router", host.send(FAR, 5), 3);
        host.router(9, 3, 0, 0);
        check.due("a neighbour that is a router is none of them", host.send(FAR, 5), 3);
        host.router(9, 3, 1, 0);
        check.due("one", host.send(FAR, 5), 0);
        host.tick(1);
        check.due("none any more", host.send(FAR, 5), 3);
        host.router(9, 3, 1000, 0);
        check.due("one again", host.send(FAR, 5), 0);
        host.router(9, 3, 0, 0);
        int sent = host.count(6);
        check.due("none again", host.send(FAR, 5), 3);
        check.due("nothing is sent", host.count(6), sent);
        check.due("no other neighbour is made", host.count(4), 1);
    }

    /** With routers 10, 11 .. whose neighbours are in those states. */
    private static LinkHost withRouters(int... states) {
        LinkHost host = Hosts.withPrefix(7);
        for (int i = 0; i < states.length; i++) {
            host.router(10 + i, 10 + i, 1000, 0);
            host.send(Hosts.local(10 + i), 5);
        }
        host.tick(8);
        check.due("all neighbours are gone", host.count(4), 0);
        for (int i = states.length - 1; i >= 0; i--) {
            if (states[i] == SOUGHT) {
                host.send(Hosts.local(10 + i), 5);
            } else if (states[i] == KNOWN) {
                host.asked(Hosts.local(10 + i), OWN, 10 + i);
            }
        }
        return host;
    }

    private static void picksAmongRouters() {
        check.under("the first router whose neighbour is there and not sought, else the first "
                + "router.");
        for (int first = GONE; first <= KNOWN; first++) {
            sendsFar(first);
            for (int second = GONE; second <= KNOWN; second++) {
                sendsFar(first, second);
                for (int third = GONE; third <= KNOWN; third++) {
                    sendsFar(first, second, third);
                }
            }
        }
    }

    private static void sendsFar(int... states) {
        LinkHost host = withRouters(states);
        StringBuilder what = new StringBuilder("states");
        int pick = -1;
        for (int i = 0; i < states.length; i++) {
            what.append(' ').append(states[i]);
            if (pick < 0 && states[i] == KNOWN) {
                pick = i;
            }
        }
        int sent = host.count(6);
        int neighbours = host.count(4);
        if (pick >= 0) {
            check.due(what + ": sent", host.send(FAR, 12), 0);
            check.out(what.toString(), host, 0, 4, Hosts.local(10 + pick), 12);
            check.due(what + ": no other neighbour", host.count(4), neighbours);
            return;
        }
        boolean made = states[0] == GONE;
        check.due(what + ": waits", host.send(FAR, 12), 1);
        check.due(what + ": asked for", host.count(6), made ? sent + 1 : sent);
        check.due(what + ": neighbours", host.count(4), made ? neighbours + 1 : neighbours);
        host.told(Hosts.local(10), 3, 3);
        check.out(what + ": what waited", host, 0, 4, Hosts.local(10), 12);
    }

    private static void eachKnownStateWillDo() {
        for (int ticks = 0; ticks <= 8; ticks++) {
            LinkHost host = Hosts.withPrefix(7);
            host.router(10, 3, 1000, 0);
            host.send(FAR, 5);
            if (ticks > 0) {
                host.tick(ticks);
            }
            check.due("in delay, probed, gone: after " + ticks, host.send(FAR, 5),
                    ticks < 8 ? 0 : 1);
        }
        LinkHost reachable = Hosts.withPrefix(7);
        reachable.router(10, 3, 1000, 0);
        reachable.told(Hosts.local(10), 3, 3);
        check.due("reachable", reachable.send(FAR, 5), 0);
        check.due("reachable still", reachable.neighbour(Hosts.local(10)),
                Hosts.known(Hosts.REACHABLE, 3) + Hosts.ROUTER);
    }

    private static void onLinkEdges() {
        check.under("it does not go to LOCAL, nor to an on-link prefix");
        LinkHost host = Hosts.withPrefix(7);
        host.prefix(2, 1, 3, 0);
        host.prefix(250, 1, 1000, 0);
        check.due("LOCAL, least", host.send(257, 5), 1);
        check.due("LOCAL, greatest", host.send(510, 5), 1);
        check.due("2, least", host.send(513, 5), 1);
        check.due("2, greatest", host.send(766, 5), 1);
        check.due("3, least", host.send(769, 5), 3);
        check.due("249, greatest", host.send(Hosts.address(249, 254), 5), 3);
        check.due("250, greatest", host.send(Hosts.address(250, 254), 5), 1);
        host.tick(2);
        check.due("before its end", host.send(513, 5), 1);
        host.tick(1);
        check.due("at its end", host.send(513, 5), 3);
        host.router(10, 3, 1000, 0);
        check.due("by the router then", host.send(513, 5), 0);
        check.due("to the router", host.outTo(0), Hosts.local(10));
        check.due("an on-link one by itself", host.send(Hosts.address(250, 9), 5), 1);
    }
}
