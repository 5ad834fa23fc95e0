/** Promise 14: neighbour. */
public final class NeighbourTest {
    private static final Check check = new Check("NeighbourTest");

    public static void main(String[] args) {
        tellsWhatItIs();
        aMadeOneIsNoRouter();
        answersAnyNumber();
        check.end();
    }

    private static void tellsWhatItIs() {
        check.under("A NEIGHBOUR has an address, a link number (0 while it is sought), whether it "
                + "is a router, and a STATE: 1 SOUGHT, 2 REACHABLE, 3 STALE, 4 DELAY, 5 PROBED.");
        LinkHost host = Hosts.ready(7);
        int friend = Hosts.local(9);
        check.due("none", host.neighbour(friend), 0);
        host.send(friend, 5);
        check.due("sought", host.neighbour(friend), 1 + 2048);
        host.told(friend, 99, 3);
        check.due("reachable", host.neighbour(friend), 2 + 8 * 99 + 1024);
        host.tick(10);
        check.due("stale", host.neighbour(friend), 3 + 8 * 99 + 1024);
        host.told(friend, 1, 4);
        host.send(friend, 5);
        check.due("delay", host.neighbour(friend), 4 + 8);
        host.tick(5);
        check.due("probed", host.neighbour(friend), 5 + 8);
        host.tick(3);
        check.due("taken away", host.neighbour(friend), 0);
    }

    private static void aMadeOneIsNoRouter() {
        check.under("A NEIGHBOUR has an address, a link number (0 while it is sought), whether it "
                + "is a router");
        LinkHost host = Hosts.withPrefix(7);
        int router = Hosts.local(9);
        host.router(9, 3, 1000, 0);
        host.send(router, 5);
        host.tick(8);
        host.send(Hosts.address(20, 1), 5);
        check.due("sought", host.neighbour(router), Hosts.SOUGHT + Hosts.WAITS);
        host.router(9, 3, 1000, 0);
        check.due("heard from again", host.neighbour(router),
                Hosts.known(Hosts.DELAY, 3) + Hosts.ROUTER);
    }

    private static void answersAnyNumber() {
        check.under("Of the neighbour with an address: its state, 8 times its link number, 1024 "
                + "if it is a router, 2048 if a packet waits, together; 0 if there is none.");
        LinkHost host = Hosts.ready(7);
        host.router(9, 3, 1000, 0);
        int[] any = {0, -1, 1, 255, Hosts.GROUP, Integer.MIN_VALUE, Integer.MAX_VALUE};
        for (int address : any) {
            check.due("neighbour(" + address + ")", host.neighbour(address), 0);
        }
        LinkHost down = new LinkHost(7);
        down.router(9, 3, 1000, 0);
        down.told(Hosts.local(7), 1, 0);
        check.due("while down", down.neighbour(Hosts.local(9)),
                Hosts.known(Hosts.STALE, 3) + Hosts.ROUTER);
    }
}
