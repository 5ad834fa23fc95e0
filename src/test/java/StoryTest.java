/** The document's first sentence, told as one host's life: each of its parts after the other. */
public final class StoryTest {
    private static final Check check = new Check("StoryTest");
    private static final int LOCAL = Hosts.local(7);
    private static final int FORMED = Hosts.address(5, 7);
    private static final int ROUTER = Hosts.local(1);
    private static final int FRIEND = Hosts.address(5, 9);
    private static final int FAR = Hosts.address(20, 9);

    public static void main(String[] args) {
        LinkHost host = new LinkHost(7);
        formsItsAddresses(host);
        looksWhetherOthersHaveThem(host);
        findsNeighbours(host);
        keepsAnEyeOnThem(host);
        picksWays(host);
        learnsHowGreatPacketsMayBe(host);
        answersPackets(host);
        notTooOften(host);
        check.end();
    }

    private static void formsItsAddresses(LinkHost host) {
        check.under("A host on a link forms its addresses by what routers tell");
        host.router(1, 3, 1000, 30);
        host.prefix(5, 3, 500, 400);
        check.due("two addresses", host.count(1), 2);
        check.due("local", host.own(0), Hosts.owned(Hosts.TENTATIVE, LOCAL));
        check.due("formed", host.own(1), Hosts.owned(Hosts.TENTATIVE, FORMED));
        check.due("until", host.until(1), 500);
    }

    private static void looksWhetherOthersHaveThem(LinkHost host) {
        check.under("looks whether others have them before it uses them");
        check.due("not used yet", host.send(FRIEND, 10), 4);
        host.prefix(6, 2, 500, 400);
        host.tick(1);
        host.told(Hosts.address(6, 7), 8, 0);
        host.tick(1);
        check.due("local", host.own(0), Hosts.owned(Hosts.PREFERRED, LOCAL));
        check.due("formed", host.own(1), Hosts.owned(Hosts.PREFERRED, FORMED));
        check.due("another one has it", host.own(2),
                Hosts.owned(Hosts.DUPLICATE, Hosts.address(6, 7)));
        check.due("all were probed twice", host.count(6), 6);
    }

    private static void findsNeighbours(LinkHost host) {
        check.under("finds neighbours");
        check.due("sought", host.send(FRIEND, 10), 1);
        host.tick(1);
        check.out("asked for again", host, 0, 2, Hosts.GROUP, FRIEND);
        host.told(FRIEND, 44, 2);
        check.out("what waited is sent", host, 0, 4, FRIEND, 10);
        check.due("two neighbours", host.count(4), 2);
    }

    private static void keepsAnEyeOnThem(LinkHost host) {
        check.under("keeps an eye on whether they can be reached");
        check.due("reachable", host.neighbour(FRIEND), Hosts.known(Hosts.REACHABLE, 44));
        host.tick(10);
        check.due("stale", host.neighbour(FRIEND), Hosts.known(Hosts.STALE, 44));
        check.due("sent", host.send(FRIEND, 11), 0);
        host.tick(5);
        check.due("probed", host.neighbour(FRIEND), Hosts.known(Hosts.PROBED, 44));
        host.told(FRIEND, 44, 2);
        check.due("reachable again", host.neighbour(FRIEND), Hosts.known(Hosts.REACHABLE, 44));
    }

    private static void picksWays(LinkHost host) {
        check.under("picks ways for packets");
        check.due("by the router", host.send(FAR, 12), 0);
        check.out("to the router", host, 0, 4, ROUTER, 12);
        check.due("by itself", host.send(FRIEND, 13), 0);
        check.out("to the neighbour", host, 0, 4, FRIEND, 13);
    }

    private static void learnsHowGreatPacketsMayBe(LinkHost host) {
        check.under("and learns how great these may be");
        check.due("the link's size", host.sizeTo(FAR), 30);
        host.smaller(FAR, 20);
        check.due("too great", host.send(FAR, 21), 2);
        check.due("not too great", host.send(FAR, 20), 0);
        host.tick(2);
        check.due("the path's size", host.sizeTo(FAR), 20);
    }

    private static void answersPackets(LinkHost host) {
        check.under("and answers packets by the headers they bear");
        check.due("an echo", Hosts.come(host, FAR, FORMED, 0, 0, 5, 3), 2);
        check.out("an echo", host, 0, 5, FAR, 3);
        check.due("data", Hosts.come(host, FAR, FORMED, 3, 0, 6, 0), 2);
        check.due("taken", host.count(8), 1);
        check.due("a fault", Hosts.come(host, FAR, FORMED, 1, 0, 2, 1), 2);
        check.out("a fault", host, 0, 6, FAR, 16);
    }

    private static void notTooOften(LinkHost host) {
        check.under("but not too often.");
        check.due("time", host.count(0), 20);
        int sent = host.count(6);
        for (int i = 0; i < 5; i++) {
            Hosts.come(host, FAR, LOCAL, 9, 0);
        }
        check.due("two were left", host.count(6), sent + 2);
        check.due("the bucket is empty", host.count(9), 0);
        host.tick(4);
        check.due("one came", host.count(9), 1);
        Hosts.come(host, FAR, LOCAL, 8, 0);
        check.out("a fault again", host, 0, 6, FAR, 1);
        check.due("the bucket is empty", host.count(9), 0);
    }
}
