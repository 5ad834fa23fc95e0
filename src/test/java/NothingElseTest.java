/** What a call leaves as it is: reading calls all, others whatever the document does not name. */
public final class NothingElseTest {
    private static final Check check = new Check("NothingElseTest");
    private static final int OWN = Hosts.local(7);
    private static final int FORMED = Hosts.address(5, 7);
    private static final int DUPLICATE = Hosts.address(6, 7);
    private static final int ROUTER = Hosts.local(1);
    private static final int SOUGHT = Hosts.local(8);
    private static final int FRIEND = Hosts.local(9);
    private static final int FAR = Hosts.address(20, 9);
    private static final int[] ADDRESSES = {
        OWN, FORMED, DUPLICATE, ROUTER, SOUGHT, FRIEND, FAR, Hosts.local(99),
    };

    private interface Call {
        void make(LinkHost host);
    }

    public static void main(String[] args) {
        check.under("Nothing is promised beyond the answers and state changes described above");
        readingChangesNothing();
        refusedPacketsChangeNothing();
        emptyWordsOfPrefixesChangeNothing();
        emptyWordsOfNeighboursChangeNothing();
        emptyWordsOfSizesChangeNothing();
        packetsForOthersChangeNothing();
        onlyTheHeadersAreGone();
        eachCallChangesItsOwnRows();
        objectsAreApart();
        check.end();
    }

    /** With some of each row, one sought and one waiting, and two in the bucket. */
    private static LinkHost busy() {
        LinkHost host = Hosts.ready(7);
        host.prefix(5, 3, 100, 50);
        host.prefix(6, 2, 100, 50);
        host.told(DUPLICATE, 3, 0);
        host.tick(2);
        host.router(1, 3, 100, 30);
        host.asked(FRIEND, OWN, 4);
        host.send(SOUGHT, 12);
        host.smaller(FAR, 20);
        Hosts.come(host, FRIEND, OWN, 7, 0);
        return host;
    }

    private static void same(String what, Call call) {
        LinkHost host = busy();
        call.make(host);
        check.same(what, Hosts.seen(host, ADDRESSES), Hosts.seen(busy(), ADDRESSES));
    }

    private static void readingChangesNothing() {
        same("seen twice", host -> Hosts.seen(host, ADDRESSES));
        LinkHost read = busy();
        LinkHost unread = busy();
        for (int i = 0; i < 3; i++) {
            Hosts.seen(read, ADDRESSES);
            read.tick(1);
            unread.tick(1);
        }
        check.same("ticks behind it", Hosts.seen(read, ADDRESSES), Hosts.seen(unread, ADDRESSES));
        LinkHost headed = busy();
        headed.header(1, 0);
        Hosts.seen(headed, ADDRESSES);
        check.due("the headers stay", headed.header(6, 0), 2);
    }

    private static void refusedPacketsChangeNothing() {
        same("too great", host -> check.due("send", host.send(FAR, 21), 2));
        same("too great for the link", host -> check.due("send", host.send(FRIEND, 31), 2));
        LinkHost host = Hosts.ready(7);
        String before = Hosts.seen(host, ADDRESSES);
        check.due("no address", host.send(FAR, 5), 4);
        check.same("no address", Hosts.seen(host, ADDRESSES), before);
        LinkHost wayless = Hosts.withPrefix(7);
        String beforeThat = Hosts.seen(wayless, ADDRESSES);
        check.due("no way", wayless.send(FAR, 5), 3);
        check.same("no way", Hosts.seen(wayless, ADDRESSES), beforeThat);
    }

    private static void emptyWordsOfPrefixesChangeNothing() {
        same("of LOCAL", host -> host.prefix(1, 3, 10, 5));
        same("without a flag", host -> host.prefix(5, 0, 10, 5));
        same("preferred longer than valid", host -> host.prefix(5, 2, 10, 11));
        same("of a duplicate address", host -> host.prefix(6, 2, 900, 900));
        same("valid life 0 of a new one", host -> host.prefix(8, 3, 0, 0));
        same("the same lives", host -> host.prefix(5, 1, 98, 0));
    }

    private static void emptyWordsOfNeighboursChangeNothing() {
        same("of a stranger", host -> host.told(Hosts.local(99), 3, 7));
        same("of the host itself", host -> host.told(OWN, 3, 7));
        same("of a duplicate address", host -> host.told(DUPLICATE, 3, 7));
        same("another number without OVERRIDE", host -> host.told(FRIEND, 5, 3));
        same("the same number", host -> host.told(FRIEND, 4, 4));
        same("asked for a stranger", host -> host.asked(FRIEND, Hosts.local(99), 5));
        same("asked for a duplicate address", host -> host.asked(FRIEND, DUPLICATE, 5));
        same("asked by NONE for that", host -> host.asked(Hosts.NONE, DUPLICATE, 5));
        same("asked by NONE for a neighbour", host -> host.asked(Hosts.NONE, FRIEND, 5));
        same("heard from a router again", host -> host.router(1, 3, 100, 0));
    }

    private static void emptyWordsOfSizesChangeNothing() {
        same("below 8", host -> host.smaller(FRIEND, 7));
        same("as great as the path", host -> host.smaller(FAR, 20));
        same("greater than the path", host -> host.smaller(FAR, 29));
        same("as great as the link", host -> host.smaller(FRIEND, 30));
        same("a link's size below 8", host -> host.router(1, 3, 100, 7));
        same("a link's size above 40", host -> host.router(1, 3, 100, 41));
    }

    private static void packetsForOthersChangeNothing() {
        check.under("to an own usable one or to GROUP (else nothing happens)");
        int[] others = {FRIEND, FAR, DUPLICATE, Hosts.local(99), Hosts.address(8, 7)};
        for (int to : others) {
            same("an echo to " + to, host -> Hosts.come(host, FRIEND, to, 5, 1));
            same("data to " + to, host -> Hosts.come(host, FRIEND, to, 6, 1));
            same("a fault to " + to, host -> Hosts.come(host, FRIEND, to, 7, 1));
        }
        same("no header", host -> host.come(FRIEND, OWN));
        same("nothing", host -> Hosts.come(host, FRIEND, OWN, 4, 0));
        same("a part", host -> Hosts.come(host, FRIEND, OWN, 3, 1));
        same("an option that ends", host -> Hosts.come(host, FRIEND, OWN, 1, 1));
        same("behind the last one", host -> Hosts.come(host, FRIEND, OWN, 0, 0, 2, 0));
    }

    private static void onlyTheHeadersAreGone() {
        check.under("there are no headers then");
        same("a header by itself", host -> host.header(7, 0));
        LinkHost host = busy();
        host.header(1, 0);
        host.tick(1);
        host.send(FRIEND, 5);
        host.told(SOUGHT, 3, 2);
        host.asked(FRIEND, OWN, 4);
        host.router(2, 3, 10, 0);
        host.prefix(8, 3, 10, 10);
        host.smaller(FRIEND, 9);
        check.due("no other call takes them away", host.header(6, 0), 2);
        check.due("both are looked at", host.come(FRIEND, OWN), 2);
    }

    /** By the counts 1 .. 11, of which each call may change but those that are given. */
    private static void eachCallChangesItsOwnRows() {
        check.under("Nothing is promised beyond the answers and state changes described above");
        changesOnly("router", host -> host.router(2, 5, 50, 25), 2, 4, 10);
        changesOnly("router that answers a search", host -> host.router(8, 5, 50, 25), 2, 6, 10);
        changesOnly("prefix", host -> host.prefix(8, 3, 50, 25), 1, 3, 6);
        changesOnly("asked", host -> host.asked(Hosts.local(99), OWN, 3), 4, 6);
        changesOnly("told", host -> host.told(SOUGHT, 3, 2), 6);
        changesOnly("told to be no router", host -> host.told(ROUTER, 3, 0), 2);
        changesOnly("send", host -> host.send(Hosts.local(99), 5), 4, 6);
        changesOnly("send to a known one", host -> host.send(FRIEND, 5), 6);
        changesOnly("send by the router", host -> host.send(FAR, 5), 6);
        changesOnly("smaller", host -> host.smaller(FRIEND, 9), 5);
        changesOnly("data", host -> Hosts.come(host, FRIEND, OWN, 6, 0), 8);
        changesOnly("echo", host -> Hosts.come(host, FRIEND, OWN, 5, 0), 6);
        changesOnly("fault", host -> Hosts.come(host, FRIEND, OWN, 7, 0), 6, 9);
    }

    private static void changesOnly(String what, Call call, int... changed) {
        LinkHost host = busy();
        LinkHost before = busy();
        call.make(host);
        for (int which = 0; which <= 11; which++) {
            boolean mayChange = false;
            for (int one : changed) {
                mayChange |= one == which;
            }
            check.due(what + " changes count(" + which + ")",
                    host.count(which) == before.count(which) ? 0 : 1, mayChange ? 1 : 0);
        }
    }

    private static void objectsAreApart() {
        check.under("LinkHost(int id)");
        LinkHost one = busy();
        LinkHost other = new LinkHost(7);
        other.told(OWN, 3, 0);
        LinkHost third = Hosts.ready(9);
        third.router(1, 9, 1, 8);
        third.tick(100);
        check.same("one", Hosts.seen(one, ADDRESSES), Hosts.seen(busy(), ADDRESSES));
        check.due("the other is down", other.count(11), 1);
        check.due("the third has its own id", third.own(0),
                Hosts.owned(Hosts.PREFERRED, Hosts.local(9)));
    }
}
