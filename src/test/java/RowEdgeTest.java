/** Rows: with one less than they hold, full, and when one more comes. */
public final class RowEdgeTest {
    private static final Check check = new Check("RowEdgeTest");
    private static final int OWN = Hosts.local(7);
    private static final int FAR = Hosts.address(20, 9);
    private static final String ONE_MORE =
            "when one more comes to a full row, the first one goes";

    public static void main(String[] args) {
        ownAddresses();
        ownAddressesWithDuplicates();
        routers();
        routersInTheirOrder();
        prefixes();
        neighbours();
        neighboursByEachCall();
        neighboursHeardOfAgain();
        packetsThatWaitAreNotCounted();
        aRouterWithoutItsNeighbour();
        paths();
        check.end();
    }

    private static void ownAddresses() {
        check.under("OWN ADDRESSES (at most 5) .. and there are fewer than 5, it is formed");
        LinkHost host = Hosts.ready(7);
        for (int prefix = 2; prefix <= 5; prefix++) {
            host.prefix(prefix, 2, prefix == 3 ? 5 : 100, 0);
            check.due("formed", host.count(1), prefix);
            check.due("probed", host.count(6), prefix + 1);
        }
        host.prefix(6, 2, 100, 0);
        host.prefix(7, 3, 1000, 1000);
        check.due("a sixth is not formed", host.count(1), 5);
        check.due("nor probed", host.count(6), 6);
        check.due("its prefix is on link all the same", host.count(3), 1);
        for (int i = 0; i < 5; i++) {
            check.due("none went", host.own(i) % 65536, Hosts.address(i + 1, 7));
        }
        host.prefix(5, 2, 200, 0);
        check.due("one that is there is renewed", host.until(4), 202);
        host.tick(4);
        host.prefix(6, 2, 100, 0);
        check.due("still five", host.count(1), 5);
        host.tick(1);
        check.due("one went", host.count(1), 4);
        host.prefix(6, 2, 100, 0);
        check.due("room for one", host.own(4),
                Hosts.owned(Hosts.TENTATIVE, Hosts.address(6, 7)));
        host.prefix(3, 2, 100, 0);
        check.due("and for no other", host.count(1), 5);
    }

    private static void ownAddressesWithDuplicates() {
        LinkHost host = Hosts.ready(7);
        for (int prefix = 2; prefix <= 5; prefix++) {
            host.prefix(prefix, 2, 100, 0);
            host.told(Hosts.address(prefix, 7), 3, 0);
        }
        host.prefix(6, 2, 100, 0);
        check.due("duplicate ones count", host.count(1), 5);
    }

    private static void routers() {
        check.under("ROUTERS (at most 3): " + ONE_MORE);
        LinkHost host = Hosts.withPrefix(7);
        for (int id = 10; id <= 12; id++) {
            host.router(id, id, 1000, 0);
            check.due("routers", host.count(2), id - 9);
            host.send(FAR, 5);
            check.due("the first one is there", host.outTo(0), Hosts.local(10));
        }
        host.router(12, 12, 1000, 0);
        host.router(11, 11, 1000, 0);
        host.send(FAR, 5);
        check.due("no one more came", host.outTo(0), Hosts.local(10));
        host.router(13, 13, 0, 0);
        host.send(FAR, 5);
        check.due("nor with life 0", host.outTo(0), Hosts.local(10));
        host.router(13, 13, 1, 0);
        check.due("three still", host.count(2), 3);
        host.send(FAR, 5);
        check.due("the first one went", host.outTo(0), Hosts.local(11));
        check.due("its neighbour stays", host.neighbour(Hosts.local(10)) % 1024 / 8, 10);
        host.tick(1);
        check.due("two", host.count(2), 2);
        host.router(10, 10, 1000, 0);
        host.send(FAR, 5);
        check.due("there was room", host.outTo(0), Hosts.local(11));
    }

    private static void routersInTheirOrder() {
        check.under("are rows in the order in which they came");
        LinkHost host = Hosts.withPrefix(7);
        int[] came = {14, 10, 13, 11};
        for (int id : came) {
            host.router(id, id, 1000, 0);
        }
        host.router(10, 10, 1000, 0);
        for (int i = 1; i < came.length; i++) {
            host.send(FAR, 5);
            check.due("router " + i, host.outTo(0), Hosts.local(came[i]));
            host.router(came[i], came[i], 0, 0);
        }
        check.due("none is left", host.send(FAR, 5), 3);
    }

    private static void prefixes() {
        check.under("ON-LINK PREFIXES (at most 4): " + ONE_MORE);
        int[] held = {11, 12, 13, 14};
        for (int more = 0; more <= 6; more++) {
            LinkHost host = Hosts.withPrefix(7);
            host.prefix(5, 1, 0, 0);
            for (int prefix : held) {
                host.prefix(prefix, 1, 1000, 0);
                check.due("prefixes", host.count(3), prefix - 10);
            }
            host.prefix(12, 1, 1000, 0);
            host.prefix(11, 1, 1000, 0);
            host.prefix(21, 1, 0, 0);
            for (int i = 0; i < more; i++) {
                host.prefix(21 + i, 1, 1000, 0);
            }
            check.due("four", host.count(3), 4);
            for (int i = 0; i < held.length; i++) {
                check.due(more + " more, prefix " + held[i],
                        host.send(Hosts.address(held[i], 9), 5), i < more ? 3 : 1);
            }
            check.due("250 never came", host.send(Hosts.address(250, 9), 5), 3);
        }
    }

    private static void neighbours() {
        check.under("NEIGHBOURS (at most 6): " + ONE_MORE);
        for (int came = 5; came <= 14; came++) {
            LinkHost host = Hosts.ready(7);
            for (int id = 10; id < 10 + came; id++) {
                host.asked(Hosts.local(id), OWN, id);
            }
            check.due("neighbours", host.count(4), Math.min(came, 6));
            for (int id = 10; id < 10 + came; id++) {
                check.due(came + " came, neighbour " + id, host.neighbour(Hosts.local(id)),
                        id < 10 + came - 6 ? 0 : Hosts.known(Hosts.STALE, id));
            }
        }
    }

    private static LinkHost withSixNeighbours() {
        LinkHost host = Hosts.ready(7);
        for (int id = 10; id <= 15; id++) {
            host.asked(Hosts.local(id), OWN, id);
        }
        return host;
    }

    private static void neighboursByEachCall() {
        LinkHost sending = withSixNeighbours();
        sending.send(Hosts.local(16), 5);
        onlyTheFirstWent("send", sending);
        LinkHost asked = withSixNeighbours();
        asked.asked(Hosts.local(16), OWN, 16);
        onlyTheFirstWent("asked", asked);
        LinkHost heard = withSixNeighbours();
        heard.router(16, 16, 0, 0);
        onlyTheFirstWent("router", heard);
        LinkHost told = withSixNeighbours();
        told.told(Hosts.local(16), 16, 7);
        check.due("told makes none", told.neighbour(Hosts.local(16)), 0);
        check.due("none went", told.neighbour(Hosts.local(10)), Hosts.known(Hosts.STALE, 10));
        LinkHost refused = withSixNeighbours();
        refused.asked(Hosts.local(16), Hosts.local(17), 16);
        refused.asked(Hosts.NONE, OWN, 16);
        refused.send(FAR, 5);
        check.due("none went", refused.neighbour(Hosts.local(10)), Hosts.known(Hosts.STALE, 10));
    }

    private static void onlyTheFirstWent(String what, LinkHost host) {
        check.due(what + ": six", host.count(4), 6);
        check.due(what + ": the first one went", host.neighbour(Hosts.local(10)), 0);
        check.due(what + ": the second is there", host.neighbour(Hosts.local(11)),
                Hosts.known(Hosts.STALE, 11));
        check.due(what + ": the new one is there", Math.min(host.neighbour(Hosts.local(16)), 1), 1);
    }

    private static void neighboursHeardOfAgain() {
        check.under("are rows in the order in which they came");
        LinkHost host = withSixNeighbours();
        host.asked(Hosts.local(10), OWN, 99);
        host.router(10, 98, 5, 0);
        host.told(Hosts.local(10), 97, 7);
        host.send(Hosts.local(10), 5);
        check.due("six", host.count(4), 6);
        host.asked(Hosts.local(16), OWN, 16);
        check.due("heard of again it is still the first", host.neighbour(Hosts.local(10)), 0);
        check.due("the second is there", host.neighbour(Hosts.local(11)),
                Hosts.known(Hosts.STALE, 11));
    }

    private static void packetsThatWaitAreNotCounted() {
        check.under("(a packet that waits for it is not counted)");
        for (int more = 0; more <= 6; more++) {
            LinkHost host = Hosts.ready(7);
            for (int id = 10; id <= 15; id++) {
                host.send(Hosts.local(id), 5);
            }
            for (int i = 0; i < more; i++) {
                host.asked(Hosts.local(30 + i), OWN, 3);
            }
            check.due(more + " went: lost", host.count(7), 0);
            int sent = host.count(6);
            host.tick(1);
            check.due(more + " went: asked for no more", host.count(6), sent + 6 - more);
            host.tick(2);
            check.due(more + " went: the others are lost", host.count(7), 6 - more);
            check.due(more + " went: left", host.count(4), more);
        }
    }

    private static void aRouterWithoutItsNeighbour() {
        LinkHost host = Hosts.withPrefix(7);
        host.router(9, 3, 1000, 0);
        for (int id = 10; id <= 15; id++) {
            host.asked(Hosts.local(id), OWN, id);
        }
        check.due("its neighbour went", host.neighbour(Hosts.local(9)), 0);
        check.due("it is a router still", host.count(2), 1);
        check.due("and is sought", host.send(FAR, 5), 1);
        check.due("as one more neighbour", host.neighbour(Hosts.local(9)),
                Hosts.SOUGHT + Hosts.WAITS);
        check.due("the first one went", host.neighbour(Hosts.local(10)), 0);
        check.due("six", host.count(4), 6);
    }

    private static void paths() {
        check.under("PATHS (at most 4): " + ONE_MORE);
        for (int came = 1; came <= 9; came++) {
            LinkHost host = Hosts.ready(7);
            for (int id = 1; id <= came; id++) {
                host.smaller(Hosts.address(20, id), 20 + id);
            }
            host.smaller(Hosts.address(20, came), 20 + came);
            host.smaller(Hosts.address(20, 99), 40);
            host.smaller(Hosts.address(20, 99), 7);
            check.due("paths", host.count(5), Math.min(came, 4));
            for (int id = 1; id <= came; id++) {
                check.due(came + " came, path " + id, host.sizeTo(Hosts.address(20, id)),
                        id <= came - 4 ? 40 : 20 + id);
            }
        }
        LinkHost again = Hosts.ready(7);
        for (int id = 1; id <= 4; id++) {
            again.smaller(Hosts.address(20, id), 20 + id);
        }
        again.smaller(Hosts.address(20, 1), 9);
        check.due("made smaller in a full row", again.count(5), 4);
        check.due("none went", again.sizeTo(Hosts.address(20, 2)), 22);
        again.smaller(Hosts.address(20, 5), 25);
        check.due("it is still the first", again.sizeTo(Hosts.address(20, 1)), 40);
        check.due("the second is there", again.sizeTo(Hosts.address(20, 2)), 22);
    }
}
