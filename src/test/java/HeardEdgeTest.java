/** What is heard of neighbours: in each state, with the same link number and with another one. */
public final class HeardEdgeTest {
    private static final Check check = new Check("HeardEdgeTest");
    private static final int OWN = Hosts.local(7);
    private static final int FRIEND = Hosts.local(9);
    private static final int NO_STATE = 0;
    private static final int FLAG_ROUTER = 1;
    private static final int FLAG_ASKED = 2;
    private static final int FLAG_OVERRIDE = 4;
    private static final int SIZE = 17;

    public static void main(String[] args) {
        fromARouter();
        fromOneThatAsks();
        told();
        toldToBeNoRouter();
        fromTheHostsOwnId();
        check.end();
    }

    /** With a neighbour of number 3 in that state; its time is 12 then, whatever the state. */
    private static LinkHost with(int state, boolean router) {
        LinkHost host = Hosts.ready(7);
        host.tick(state == Hosts.PROBED ? 5 : 10);
        if (state == Hosts.SOUGHT) {
            host.send(FRIEND, SIZE);
        } else if (state != NO_STATE) {
            makeKnown(host, state, router);
        }
        check.due("state", host.neighbour(FRIEND), before(state, router));
        check.due("time", host.count(0), 12);
        return host;
    }

    private static void makeKnown(LinkHost host, int state, boolean router) {
        if (router) {
            host.router(9, 3, 1000, 0);
        } else {
            host.asked(FRIEND, OWN, 3);
        }
        if (state == Hosts.REACHABLE) {
            host.told(FRIEND, 3, FLAG_ASKED | (router ? FLAG_ROUTER : 0));
        }
        if (state == Hosts.DELAY || state == Hosts.PROBED) {
            host.send(FRIEND, 5);
        }
        if (state == Hosts.PROBED) {
            host.tick(5);
        }
    }

    private static int before(int state, boolean router) {
        if (state == NO_STATE) {
            return 0;
        }
        if (state == Hosts.SOUGHT) {
            return Hosts.SOUGHT + Hosts.WAITS;
        }
        return Hosts.known(state, 3) + (router ? Hosts.ROUTER : 0);
    }

    /** What becomes of the state by a link number that a router or an asker has. */
    private static int stateThen(int state, boolean same) {
        if (state == NO_STATE) {
            return Hosts.STALE;
        }
        if (state == Hosts.SOUGHT) {
            return Hosts.DELAY;
        }
        return same ? state : Hosts.STALE;
    }

    private static void fromARouter() {
        check.under("a neighbour r is made as stale with that number, if there is none; if the "
                + "number is another one (or r is sought), it has it, and is stale, and what waits "
                + "is sent; the neighbour is a router from then on (whatever the life).");
        for (int state = NO_STATE; state <= Hosts.PROBED; state++) {
            for (int number : new int[] {1, 2, 3, 4, 98, 99}) {
                for (int life : new int[] {0, 1, 1000}) {
                    String what = "state " + state + ", number " + number + ", life " + life;
                    LinkHost host = with(state, false);
                    int sent = host.count(6);
                    host.router(9, number, life, 0);
                    check.due(what, host.neighbour(FRIEND), Hosts.ROUTER
                            + Hosts.known(stateThen(state, number == 3), number));
                    check.due(what + ": routers", host.count(2), life == 0 ? 0 : 1);
                    sentWhatWaited(what, host, sent, state, 0);
                }
            }
        }
    }

    private static void fromOneThatAsks() {
        check.under("a neighbour s is made or changed by the link number, as with routers (but "
                + "whether it is a router is as it was, at first not), and TOLD to s.");
        for (int state = NO_STATE; state <= Hosts.PROBED; state++) {
            for (int number : new int[] {1, 2, 3, 4, 98, 99}) {
                for (int router = 0; router <= (state >= Hosts.REACHABLE ? 1 : 0); router++) {
                    String what = "state " + state + ", number " + number + ", router " + router;
                    LinkHost host = with(state, router == 1);
                    int sent = host.count(6);
                    host.asked(FRIEND, OWN, number);
                    check.due(what, host.neighbour(FRIEND), Hosts.ROUTER * router
                            + Hosts.known(stateThen(state, number == 3), number));
                    check.due(what + ": routers", host.count(2), router);
                    check.out(what, host, 0, 3, FRIEND, OWN);
                    sentWhatWaited(what, host, sent, state, 1);
                }
            }
        }
    }

    /** The packet that waited went out, and that many others behind it. */
    private static void sentWhatWaited(String what, LinkHost host, int sentBefore, int state,
            int others) {
        boolean waited = state == Hosts.SOUGHT;
        check.due(what + ": sent", host.count(6), sentBefore + others + (waited ? 1 : 0));
        if (waited) {
            check.out(what + ": what waited", host, others, 4, FRIEND, SIZE);
        }
        check.due(what + ": lost", host.count(7), 0);
    }

    private static void told() {
        check.under("HEARD that t has a link number, with flags 1 ROUTER, 2 ASKED, 4 OVERRIDE");
        for (int state = NO_STATE; state <= Hosts.PROBED; state++) {
            for (int number : new int[] {2, 3, 4}) {
                for (int flags = 0; flags <= 7; flags++) {
                    toldOnce(state, number, flags, false);
                    if (state >= Hosts.REACHABLE) {
                        toldOnce(state, number, flags, true);
                    }
                }
            }
        }
    }

    private static void toldOnce(int state, int number, int flags, boolean router) {
        String what = "state " + state + ", number " + number + ", flags " + flags + ", router "
                + router;
        LinkHost host = with(state, router);
        int sent = host.count(6);
        host.told(FRIEND, number, flags);
        check.due(what, host.neighbour(FRIEND), afterTold(state, number, flags, router));
        boolean heard = number == 3 || (flags & FLAG_OVERRIDE) != 0;
        boolean staysOne = !heard || (flags & FLAG_ROUTER) != 0;
        check.due(what + ": routers", host.count(2), router && staysOne ? 1 : 0);
        sentWhatWaited(what, host, sent, state, 0);
    }

    private static int afterTold(int state, int number, int flags, boolean router) {
        boolean asked = (flags & FLAG_ASKED) != 0;
        int routerTold = (flags & FLAG_ROUTER) != 0 ? Hosts.ROUTER : 0;
        if (state == NO_STATE) {
            return 0;
        }
        if (state == Hosts.SOUGHT) {
            return Hosts.known(asked ? Hosts.REACHABLE : Hosts.DELAY, number) + routerTold;
        }
        if (number != 3 && (flags & FLAG_OVERRIDE) == 0) {
            int then = state == Hosts.REACHABLE ? Hosts.STALE : state;
            return Hosts.known(then, 3) + (router ? Hosts.ROUTER : 0);
        }
        int unasked = number != 3 ? Hosts.STALE : state;
        return Hosts.known(asked ? Hosts.REACHABLE : unasked, number) + routerTold;
    }

    private static void toldToBeNoRouter() {
        check.under("In the first and the third case it is a router or not as told; and if it was "
                + "one and is none, it goes from the routers, too.");
        for (int flags = 0; flags <= 7; flags++) {
            LinkHost host = Hosts.withPrefix(7);
            host.router(9, 3, 1000, 0);
            host.router(10, 3, 1000, 0);
            host.told(FRIEND, 3, flags);
            boolean stays = (flags & FLAG_ROUTER) != 0;
            check.due("flags " + flags + ": routers", host.count(2), stays ? 2 : 1);
            host.send(Hosts.address(20, 9), 5);
            check.due("flags " + flags + ": by the first one", host.outTo(0),
                    stays ? FRIEND : Hosts.local(10));
            host.told(FRIEND, 3, flags);
            check.due("flags " + flags + ": no other one goes", host.count(2), stays ? 2 : 1);
        }
    }

    private static void fromTheHostsOwnId() {
        check.under("r is the address of LOCAL with its id");
        for (int id : new int[] {1, 7, 254}) {
            LinkHost host = Hosts.ready(7);
            host.router(id, 3, 1000, 0);
            check.due("id " + id, host.neighbour(Hosts.local(id)),
                    Hosts.known(Hosts.STALE, 3) + Hosts.ROUTER);
            check.due("id " + id + ": routers", host.count(2), 1);
            check.due("id " + id + ": down", host.count(11), 0);
        }
    }
}
