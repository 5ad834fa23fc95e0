/** Sizes: of the link, of paths and of packets, at their edges and one step beyond. */
public final class SizeEdgeTest {
    private static final Check check = new Check("SizeEdgeTest");
    private static final int FRIEND = Hosts.local(9);
    private static final int FAR = Hosts.address(20, 9);
    private static final int WAITS = 1;
    private static final int TOO_GREAT = 2;

    public static void main(String[] args) {
        linkSizes();
        packetsAsGreatAsTheLink();
        packetsAsGreatAsThePath();
        pathsBelowEight();
        pathsThatAreNotLess();
        pathsAndTheLinkSize();
        pathsForThirtyTicks();
        check.end();
    }

    private static void setLink(LinkHost host, int size) {
        host.router(10, 3, 0, size);
    }

    private static void linkSizes() {
        check.under("A size 8 .. 40 is the LINK'S SIZE from then on (at first 40).");
        check.due("at first", new LinkHost(7).count(10), 40);
        for (int before : new int[] {8, 23, 40}) {
            for (int size = 0; size <= 99; size++) {
                LinkHost host = Hosts.ready(7);
                setLink(host, before);
                setLink(host, size);
                check.due("size " + size + " after " + before, host.count(10),
                        size >= 8 && size <= 40 ? size : before);
            }
        }
        LinkHost lasting = Hosts.ready(7);
        lasting.router(10, 3, 1, 8);
        lasting.tick(100);
        check.due("it outlives the router", lasting.count(10), 8);
    }

    private static void packetsAsGreatAsTheLink() {
        check.under("2 TOO GREAT: the size is more than the path's size to that address (the "
                + "link's size if there is none");
        for (int size = 8; size <= 40; size++) {
            LinkHost host = Hosts.ready(7);
            setLink(host, size);
            check.due("1 of " + size, host.send(FRIEND, 1), WAITS);
            check.due("one less than " + size, host.send(FRIEND, size - 1), WAITS);
            check.due("as great as " + size, host.send(FRIEND, size), WAITS);
            if (size < 40) {
                check.due("one more than " + size, host.send(FRIEND, size + 1), TOO_GREAT);
                check.due("40 of " + size, host.send(FRIEND, 40), TOO_GREAT);
            }
            host.told(FRIEND, 3, 2);
            check.out("what waited is the one that fitted", host, 0, 4, FRIEND, size);
            check.due("sizeTo", host.sizeTo(FRIEND), size);
        }
    }

    private static void packetsAsGreatAsThePath() {
        check.under("2 TOO GREAT: the size is more than the path's size to that address");
        for (int size = 8; size <= 39; size++) {
            LinkHost host = Hosts.ready(7);
            host.smaller(FRIEND, size);
            check.due("one less than " + size, host.send(FRIEND, size - 1), WAITS);
            check.due("as great as " + size, host.send(FRIEND, size), WAITS);
            check.due("one more than " + size, host.send(FRIEND, size + 1), TOO_GREAT);
            check.due("to another one", host.send(Hosts.local(11), size + 1), WAITS);
            check.due("sizeTo", host.sizeTo(FRIEND), size);
            check.due("sizeTo another one", host.sizeTo(Hosts.local(11)), 40);
        }
    }

    private static void pathsBelowEight() {
        check.under("below 8 nothing");
        for (int size = 0; size <= 7; size++) {
            LinkHost host = Hosts.ready(7);
            host.smaller(FAR, size);
            check.due("no path by " + size, host.count(5), 0);
            check.due("size", host.sizeTo(FAR), 40);
            host.smaller(FAR, 8);
            check.due("8", host.sizeTo(FAR), 8);
            host.tick(10);
            host.smaller(FAR, size);
            check.due("size after " + size, host.sizeTo(FAR), 8);
            host.tick(20);
            check.due("not lengthened by " + size, host.count(5), 0);
        }
    }

    private static void pathsThatAreNotLess() {
        check.under("if the size that a packet may have now is more than m");
        for (int now = 8; now <= 39; now++) {
            for (int told = 8; told <= 40; told++) {
                LinkHost host = Hosts.ready(7);
                host.smaller(FAR, now);
                host.tick(10);
                host.smaller(FAR, told);
                String what = now + ", told " + told;
                check.due(what, host.sizeTo(FAR), Math.min(now, told));
                check.due(what + ": one path", host.count(5), 1);
                host.tick(20);
                check.due(what + ": its end", host.count(5), told < now ? 1 : 0);
            }
        }
        LinkHost none = Hosts.ready(7);
        none.smaller(FAR, 40);
        check.due("40 of 40: no path", none.count(5), 0);
        none.smaller(FAR, 39);
        check.due("39 of 40: a path", none.count(5), 1);
    }

    private static void pathsAndTheLinkSize() {
        check.under("(the link's size if there is none, or that is less)");
        for (int link = 19; link <= 21; link++) {
            LinkHost host = Hosts.ready(7);
            host.smaller(FRIEND, 20);
            setLink(host, link);
            int least = Math.min(link, 20);
            check.due("link " + link + ", path 20", host.sizeTo(FRIEND), least);
            check.due("as great", host.send(FRIEND, least), WAITS);
            check.due("one more", host.send(FRIEND, least + 1), TOO_GREAT);
            setLink(host, 40);
            check.due("the path keeps its size", host.sizeTo(FRIEND), 20);
        }
        check.under("if the size that a packet may have now is more than m");
        for (int told = 9; told <= 12; told++) {
            LinkHost host = Hosts.ready(7);
            host.smaller(FAR, 20);
            setLink(host, 10);
            host.smaller(FAR, told);
            setLink(host, 40);
            check.due("link 10, told " + told, host.sizeTo(FAR), told < 10 ? told : 20);
        }
        LinkHost least = Hosts.ready(7);
        setLink(least, 8);
        least.smaller(FAR, 8);
        check.due("nothing is less than 8", least.count(5), 0);
    }

    private static void pathsForThirtyTicks() {
        check.under("a path to that address is made, or that there is has the size m, for 30 ticks "
                + "from now on.");
        for (int again = 0; again <= 29; again++) {
            LinkHost host = Hosts.ready(7);
            host.smaller(FAR, 21);
            if (again > 0) {
                host.tick(again);
                host.smaller(FAR, 20);
            }
            host.tick(29);
            check.due("29 ticks", host.sizeTo(FAR), again > 0 ? 20 : 21);
            host.tick(1);
            check.due("30 ticks: no path", host.count(5), 0);
            check.due("30 ticks: the link's size", host.sizeTo(FAR), 40);
        }
        LinkHost anew = Hosts.ready(7);
        anew.smaller(FAR, 20);
        anew.tick(30);
        anew.smaller(FAR, 39);
        check.due("a new path may be greater", anew.sizeTo(FAR), 39);
    }
}
