/** Which numbers are addresses, for every call that takes one. */
public final class AddressEdgeTest {
    private static final Check check = new Check("AddressEdgeTest");
    private static final int OWN = Hosts.local(7);
    /** Fewer than the calls that an object is made for, with some left to look at it. */
    private static final int CALLS = 400;

    private interface Call {
        void make(LinkHost host, int address);
    }

    public static void main(String[] args) {
        check.under("t or s is no address (s may be NONE)");
        Call askedBy = (host, address) -> host.asked(address, OWN, 3);
        Call askedFor = (host, address) -> host.asked(Hosts.local(9), address, 3);
        Call askedForByNone = (host, address) -> host.asked(Hosts.NONE, address, 3);
        takesAddresses("asked by", askedBy, true, false);
        takesAddresses("asked for", askedFor, false, false);
        takesAddresses("asked by NONE for", askedForByNone, false, false);
        check.under("told: t is no address");
        Call told = (host, address) -> host.told(address, 3, 7);
        takesAddresses("told", told, false, false);
        check.under("send: to is no address");
        Call send = (host, address) -> host.send(address, 5);
        takesAddresses("send", send, false, false);
        check.under("smaller: to is no address");
        Call smaller = (host, address) -> host.smaller(address, 20);
        takesAddresses("smaller", smaller, false, false);
        check.under("from is no address (it may be NONE), or to neither one nor GROUP");
        Call comeFrom = (host, address) -> host.come(address, OWN);
        Call comeTo = (host, address) -> host.come(Hosts.local(9), address);
        takesAddresses("come from", comeFrom, true, false);
        takesAddresses("come to", comeTo, false, true);
        twoWrongOnes();
        answersForAnyNumber();
        check.end();
    }

    /** By the document's words, and by trying all prefixes, not by taking the number apart. */
    private static boolean isAddress(int number) {
        for (int prefix = 1; prefix <= 250; prefix++) {
            int id = number - 256 * prefix;
            if (id >= 1 && id <= 254) {
                return true;
            }
        }
        return false;
    }

    private static void takesAddresses(String name, Call call, boolean noneToo, boolean groupToo) {
        takesTheEdges(name, call, noneToo, groupToo);
        for (int first = -700; first < 66500; first += CALLS) {
            LinkHost up = Hosts.ready(7);
            LinkHost down = Hosts.down(7);
            for (int number = first; number < first + CALLS; number++) {
                boolean fits = isAddress(number) || noneToo && number == Hosts.NONE
                        || groupToo && number == Hosts.GROUP;
                takesOne(name, call, up, down, number, fits);
            }
        }
    }

    private static void takesOne(String name, Call call, LinkHost up, LinkHost down, int number,
            boolean fits) {
        String what = name + " " + number;
        if (fits) {
            check.goesThrough(what, () -> call.make(up, number));
            check.badState(what + " while down", () -> call.make(down, number));
        } else {
            check.badArgument(what, () -> call.make(up, number));
            check.badArgument(what + " while down", () -> call.make(down, number));
        }
    }

    /** The numbers of the document written out, and those that are right but for an overflow. */
    private static void takesTheEdges(String name, Call call, boolean noneToo, boolean groupToo) {
        LinkHost up = Hosts.ready(7);
        LinkHost down = Hosts.down(7);
        int[] right = {257, 258, 509, 510, 513, 766, 64001, 64002, 64253, 64254};
        for (int number : right) {
            takesOne(name, call, up, down, number, true);
        }
        int[] wrong = {
            -1, 1, 7, 254, 255, 256, 511, 512, 767, 768, 64000, 64255, 64256, 64257, 64510, 65281,
            65534, 65536, 65537, 65536 + OWN, 2 * 65536 + OWN, -256, -257, -OWN, OWN - 65536,
            Integer.MIN_VALUE, Integer.MIN_VALUE + 1, Integer.MIN_VALUE + OWN,
            Integer.MAX_VALUE - 1, Integer.MAX_VALUE,
        };
        for (int number : wrong) {
            takesOne(name, call, up, down, number, false);
        }
        takesOne(name, call, up, down, Hosts.NONE, noneToo);
        takesOne(name, call, up, down, Hosts.GROUP, groupToo);
    }

    private static void twoWrongOnes() {
        LinkHost host = Hosts.ready(7);
        check.badArgument("asked", () -> host.asked(Hosts.NONE, Hosts.NONE, 3));
        check.badArgument("asked", () -> host.asked(Hosts.GROUP, Hosts.GROUP, 0));
        check.badArgument("told", () -> host.told(Hosts.NONE, 0, 8));
        check.badArgument("send", () -> host.send(Hosts.NONE, 0));
        check.badArgument("smaller", () -> host.smaller(Hosts.GROUP, 41));
        check.badArgument("come", () -> host.come(Hosts.GROUP, Hosts.NONE));
        check.badArgument("come", () -> host.come(Hosts.NONE, Hosts.NONE));
        check.badArgument("come", () -> host.come(Hosts.GROUP, Hosts.GROUP));
        check.goesThrough("come", () -> host.come(Hosts.NONE, Hosts.GROUP));
    }

    private static void answersForAnyNumber() {
        check.under("0 if there is none.");
        int friend = Hosts.local(9);
        LinkHost host = Hosts.ready(7);
        host.router(9, 3, 100, 30);
        host.smaller(friend, 20);
        int[] none = {
            friend - 1, friend + 1, friend + 256, friend - 256, friend + 65536, friend - 65536,
            -friend, 9, Hosts.NONE, -1, Hosts.GROUP, 65536, Integer.MIN_VALUE,
            Integer.MIN_VALUE + friend, Integer.MAX_VALUE,
        };
        for (int number : none) {
            check.due("neighbour(" + number + ")", host.neighbour(number), 0);
        }
        check.under("the path's, or the link's.");
        for (int number : none) {
            check.due("sizeTo(" + number + ")", host.sizeTo(number), 30);
        }
        check.due("the path's", host.sizeTo(friend), 20);
        check.due("the neighbour", host.neighbour(friend),
                Hosts.known(Hosts.STALE, 3) + Hosts.ROUTER);
    }
}
