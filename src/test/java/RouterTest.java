/** Promise 3: router. */
public final class RouterTest {
    private static final Check check = new Check("RouterTest");

    public static void main(String[] args) {
        makesAStaleNeighbour();
        changesTheNumber();
        answersTheSearch();
        isARouterWhateverTheLife();
        livesAsLongAsTold();
        keepsTheLatestThree();
        setsTheLinkSize();
        refusesWrongArguments();
        refusesWhileDown();
        check.end();
    }

    private static void makesAStaleNeighbour() {
        check.under("HEARD FROM A ROUTER (r is the address of LOCAL with its id), with a link "
                + "number: a neighbour r is made as stale with that number, if there is none");
        LinkHost host = Hosts.ready(7);
        host.router(9, 3, 50, 0);
        check.due("neighbour", host.neighbour(Hosts.local(9)),
                Hosts.known(Hosts.STALE, 3) + Hosts.ROUTER);
        check.due("routers", host.count(2), 1);
        check.due("nothing is sent", host.count(6), 2);
    }

    private static void changesTheNumber() {
        check.under("if the number is another one (or r is sought), it has it, and is stale");
        LinkHost host = Hosts.ready(7);
        int router = Hosts.local(9);
        host.router(9, 3, 50, 0);
        host.told(router, 3, 3);
        host.router(9, 3, 50, 0);
        check.due("the same number changes nothing", host.neighbour(router),
                Hosts.known(Hosts.REACHABLE, 3) + Hosts.ROUTER);
        host.router(9, 4, 50, 0);
        check.due("another one makes it stale", host.neighbour(router),
                Hosts.known(Hosts.STALE, 4) + Hosts.ROUTER);
        check.due("one neighbour", host.count(4), 1);
        check.due("one router", host.count(2), 1);
    }

    private static void answersTheSearch() {
        check.under("What waits is SENT to a neighbour, and any packet, so: kind 4, to its "
                + "address, X the size; if it is stale, it is in delay then.");
        LinkHost host = Hosts.ready(7);
        int router = Hosts.local(9);
        host.send(router, 11);
        host.router(9, 3, 50, 0);
        check.out("what waited is sent", host, 0, 4, router, 11);
        check.due("in delay then", host.neighbour(router),
                Hosts.known(Hosts.DELAY, 3) + Hosts.ROUTER);
        check.due("sent once", host.count(6), 4);
        host.tick(4);
        check.due("delay begins when it is sent", host.neighbour(router),
                Hosts.known(Hosts.DELAY, 3) + Hosts.ROUTER);
        host.tick(1);
        check.due("and lasts five ticks", host.neighbour(router),
                Hosts.known(Hosts.PROBED, 3) + Hosts.ROUTER);
    }

    private static void isARouterWhateverTheLife() {
        check.under("the neighbour is a router from then on (whatever the life).");
        LinkHost host = Hosts.ready(7);
        host.router(9, 3, 0, 0);
        check.due("no router", host.count(2), 0);
        check.due("but marked as one", host.neighbour(Hosts.local(9)),
                Hosts.known(Hosts.STALE, 3) + Hosts.ROUTER);
        host.asked(Hosts.local(10), Hosts.local(7), 4);
        host.router(10, 4, 0, 0);
        check.due("one that was there, too", host.neighbour(Hosts.local(10)),
                Hosts.known(Hosts.STALE, 4) + Hosts.ROUTER);
    }

    private static void livesAsLongAsTold() {
        check.under("Its life 0: r goes from the ROUTERS; else it is among them until its life "
                + "ends.");
        LinkHost host = Hosts.ready(7);
        host.router(9, 3, 5, 0);
        host.tick(4);
        check.due("before its end", host.count(2), 1);
        host.router(9, 3, 5, 0);
        host.tick(4);
        check.due("told again", host.count(2), 1);
        host.tick(1);
        check.due("at its end", host.count(2), 0);
        check.due("the neighbour stays", host.neighbour(Hosts.local(9)),
                Hosts.known(Hosts.STALE, 3) + Hosts.ROUTER);
        host.router(9, 3, 1000, 0);
        for (int i = 0; i < 11; i++) {
            host.tick(100);
        }
        check.due("1000 never ends", host.count(2), 1);
        host.router(9, 3, 999, 0);
        for (int i = 0; i < 9; i++) {
            host.tick(100);
        }
        host.tick(98);
        check.due("999 not yet", host.count(2), 1);
        host.tick(1);
        check.due("999 ends", host.count(2), 0);
        host.router(9, 3, 1000, 0);
        host.router(9, 3, 0, 0);
        check.due("life 0 ends at once", host.count(2), 0);
    }

    private static void keepsTheLatestThree() {
        check.under("are rows in the order in which they came; when one more comes to a full row, "
                + "the first one goes");
        LinkHost host = Hosts.withPrefix(7);
        for (int id = 10; id <= 13; id++) {
            host.router(id, id, 1000, 0);
        }
        check.due("three", host.count(2), 3);
        check.due("sent", host.send(Hosts.address(9, 1), 5), 0);
        check.due("the first one went", host.outTo(0), Hosts.local(11));
        host.router(11, 11, 1000, 0);
        host.send(Hosts.address(9, 1), 5);
        check.due("told again it keeps its place", host.outTo(0), Hosts.local(11));
        host.router(14, 14, 1000, 0);
        host.send(Hosts.address(9, 1), 5);
        check.due("and is the next that goes", host.outTo(0), Hosts.local(12));
    }

    private static void setsTheLinkSize() {
        check.under("Heard from a router: its id (the address is local), link number, life, the "
                + "link's size.");
        LinkHost host = Hosts.ready(7);
        int[][] sizesAndWanted = {
            {8, 8}, {7, 8}, {40, 40}, {41, 40}, {30, 30}, {0, 30}, {99, 30}, {39, 39},
        };
        for (int[] pair : sizesAndWanted) {
            host.router(9, 3, 0, pair[0]);
            check.due("size " + pair[0], host.count(10), pair[1]);
        }
    }

    private static void refusesWrongArguments() {
        check.under("IllegalArgumentException: id is not 1 .. 254, or number not 1 .. 99, life "
                + "not 0 .. 1000, or size not 0 .. 99.");
        int[][] wrong = {
            {0, 1, 1, 1}, {255, 1, 1, 1}, {-1, 1, 1, 1}, {1, 0, 1, 1}, {1, 100, 1, 1},
            {1, 1, -1, 1}, {1, 1, 1001, 1}, {1, 1, 1, -1}, {1, 1, 1, 100},
        };
        LinkHost host = Hosts.ready(7);
        LinkHost down = Hosts.down(7);
        for (int[] w : wrong) {
            String call = "router(" + w[0] + ", " + w[1] + ", " + w[2] + ", " + w[3] + ")";
            check.badArgument(call, () -> host.router(w[0], w[1], w[2], w[3]));
            check.badArgument(call + " while down", () -> down.router(w[0], w[1], w[2], w[3]));
        }
        check.due("no neighbours", host.count(4), 0);
        check.due("no routers", host.count(2), 0);
        host.router(1, 1, 0, 0);
        host.router(254, 99, 1000, 99);
        check.due("the edges are right", host.count(4), 2);
    }

    private static void refusesWhileDown() {
        check.under("IllegalStateException: the host is down.");
        LinkHost down = Hosts.down(7);
        check.badState("router", () -> down.router(9, 3, 50, 20));
        check.due("no routers", down.count(2), 0);
        check.due("link's size", down.count(10), 40);
    }
}
