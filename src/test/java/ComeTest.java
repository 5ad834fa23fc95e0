/** Promise 10: come, and what the headers ask for. */
public final class ComeTest {
    private static final Check check = new Check("ComeTest");
    private static final int OWN = Hosts.local(7);
    private static final int FROM = Hosts.address(20, 9);
    private static final int NO_FAULT = -1;

    public static void main(String[] args) {
        looksAtEachKind();
        looksAtEachKindBehindAnother();
        looksAtThemInTheirOrder();
        sendsAnEcho();
        takesData();
        spendsTheBucket();
        answersNothingToNone();
        comesOnlyToUsableAddresses();
        refusesWrongArguments();
        refusesWhileDown();
        check.end();
    }

    /** The packet has the given headers and data behind them. */
    private static int comeWith(LinkHost host, int from, int to, int... kindsAndNumbers) {
        for (int i = 0; i < kindsAndNumbers.length; i += 2) {
            host.header(kindsAndNumbers[i], kindsAndNumbers[i + 1]);
        }
        host.header(6, 0);
        return host.come(from, to);
    }

    /** Whether a header of that kind and number is passed, when it stands first. */
    private static boolean goesOn(int kind, int number) {
        return number == 0 && kind <= 3;
    }

    private static int faultOf(int kind, int number, boolean toGroup) {
        if (kind <= 1) {
            return number == 2 || number == 3 && !toGroup ? 2 : NO_FAULT;
        }
        if (toGroup || kind >= 3 && kind <= 6) {
            return NO_FAULT;
        }
        return kind != 2 ? 1 : number == 0 ? NO_FAULT : 0;
    }

    private static void looksAtEachKind() {
        check.under("0 HOPS, as the first one, and 1 OPTIONS: 0 goes on; 1 ends; 2 ends with a "
                + "FAULT 2; 3 likewise, unless the packet is to GROUP. 0 elsewhere: a fault 1. 2 "
                + "ROUTE: 0 goes on; else a fault 0. 3 PART: 0 goes on; else ends. 4 NOTHING: "
                + "ends.");
        for (int kind = 0; kind <= 9; kind++) {
            for (int number = 0; number <= 3; number++) {
                looksAtOne(kind, number, OWN);
                looksAtOne(kind, number, Hosts.GROUP);
            }
        }
    }

    private static void looksAtOne(int kind, int number, int to) {
        String what = "header " + kind + " " + number + " to " + to;
        LinkHost host = Hosts.ready(7);
        int looked = comeWith(host, FROM, to, kind, number);
        int fault = faultOf(kind, number, to == Hosts.GROUP);
        check.due(what + ": looked at", looked, goesOn(kind, number) ? 2 : 1);
        check.due(what + ": taken", host.count(8), goesOn(kind, number) || kind == 6 ? 1 : 0);
        check.due(what + ": bucket", host.count(9), fault == NO_FAULT ? 3 : 2);
        check.due(what + ": sent", host.count(6), 2 + (fault != NO_FAULT || kind == 5 ? 1 : 0));
        if (fault != NO_FAULT) {
            check.out(what, host, 0, 6, FROM, fault);
        }
    }

    private static void looksAtEachKindBehindAnother() {
        check.under("A fault f at header i ends it: kind 6, to where it came from, X 16 * i + f");
        int[][] kindNumberAndFault = {
            {0, 0, 1}, {0, 1, 1}, {0, 2, 1}, {0, 3, 1}, {1, 2, 2}, {1, 3, 2}, {2, 1, 0}, {2, 3, 0},
            {7, 0, 1}, {8, 3, 1}, {9, 1, 1},
        };
        for (int[] row : kindNumberAndFault) {
            String what = "header " + row[0] + " " + row[1];
            for (int before = 1; before <= 4; before++) {
                LinkHost host = Hosts.ready(7);
                for (int i = 0; i < before; i++) {
                    host.header(i == 0 ? 0 : i, 0);
                }
                check.due(what, comeWith(host, FROM, OWN, row[0], row[1]), before + 1);
                check.out(what, host, 0, 6, FROM, 16 * before + row[2]);
            }
        }
        LinkHost group = Hosts.ready(7);
        check.due("0 elsewhere to GROUP", comeWith(group, FROM, Hosts.GROUP, 1, 0, 0, 0), 2);
        check.due("no fault is sent", group.count(6), 2);
        check.due("3 to GROUP ends", comeWith(group, FROM, Hosts.GROUP, 1, 0, 1, 3), 2);
        check.due("nothing is taken", group.count(8), 0);
    }

    private static void looksAtThemInTheirOrder() {
        check.under("A PACKET THAT COMES has headers, each a kind 0 .. 9 and a number 0 .. 3, in "
                + "a row, from an address, to an own usable one or to GROUP (else nothing "
                + "happens). They are looked at from the first on:");
        LinkHost host = Hosts.ready(7);
        check.due("all", comeWith(host, FROM, OWN, 0, 0, 1, 0, 2, 0, 3, 0, 1, 0), 6);
        check.due("taken", host.count(8), 1);
        check.due("no header", host.come(FROM, OWN), 0);
        host.header(0, 0);
        host.header(3, 0);
        check.due("behind the last one", host.come(FROM, OWN), 2);
        check.due("not taken", host.count(8), 1);
        check.due("data behind the end", comeWith(host, FROM, OWN, 4, 0, 6, 0), 1);
        check.due("not taken", host.count(8), 1);
        check.due("sent nothing", host.count(6), 2);
    }

    private static void sendsAnEcho() {
        check.under("5 ECHO: ends, and an ECHO is sent: kind 5, to where it came from, X the "
                + "number.");
        LinkHost host = Hosts.ready(7);
        for (int number = 0; number <= 3; number++) {
            check.due("echo", comeWith(host, FROM + number, OWN, 5, number), 1);
            check.out("echo", host, 0, 5, FROM + number, number);
        }
        comeWith(host, FROM, Hosts.GROUP, 5, 2);
        check.out("echo to GROUP", host, 0, 5, FROM, 2);
        check.due("sent", host.count(6), 7);
        check.due("bucket", host.count(9), 3);
        check.due("not taken", host.count(8), 0);
    }

    private static void takesData() {
        check.under("6 DATA: ends; it is TAKEN.");
        LinkHost host = Hosts.ready(7);
        comeWith(host, FROM, OWN);
        comeWith(host, FROM, Hosts.GROUP);
        comeWith(host, 0, OWN);
        check.due("taken", host.count(8), 3);
        check.due("nothing is sent", host.count(6), 2);
        check.due("no neighbour is made", host.count(4), 0);
    }

    private static void spendsTheBucket() {
        check.under("and if the BUCKET is not empty: it has 3 at first, a fault takes one, and in "
                + "each tick whose time can be divided by 4 one comes, up to 3.");
        LinkHost host = Hosts.ready(7);
        for (int left = 2; left >= 0; left--) {
            comeWith(host, FROM, OWN, 7, 0);
            check.due("bucket", host.count(9), left);
        }
        check.due("sent", host.count(6), 5);
        check.due("still looked at", comeWith(host, FROM, OWN, 1, 0, 7, 0), 2);
        check.due("sent no more", host.count(6), 5);
        check.due("bucket", host.count(9), 0);
        comeWith(host, FROM, OWN, 5, 1);
        check.out("an echo needs none", host, 0, 5, FROM, 1);
        host.tick(2);
        comeWith(host, FROM, Hosts.GROUP, 1, 2);
        check.out("one came", host, 0, 6, FROM, 2);
        check.due("bucket", host.count(9), 0);
    }

    private static void answersNothingToNone() {
        check.under("(Where anything would be sent to NONE, nothing is sent, and nothing taken "
                + "from the bucket.)");
        LinkHost host = Hosts.ready(7);
        check.due("a fault", comeWith(host, 0, OWN, 7, 0), 1);
        check.due("a fault", comeWith(host, 0, Hosts.GROUP, 1, 2), 1);
        check.due("an echo", comeWith(host, 0, OWN, 5, 0), 1);
        check.due("nothing is sent", host.count(6), 2);
        check.due("bucket", host.count(9), 3);
    }

    private static void comesOnlyToUsableAddresses() {
        check.under("to an own usable one or to GROUP (else nothing happens).");
        LinkHost host = new LinkHost(7);
        check.due("tentative", comeWith(host, FROM, OWN), 0);
        check.due("GROUP", comeWith(host, FROM, Hosts.GROUP), 1);
        host.tick(2);
        check.due("preferred", comeWith(host, FROM, OWN), 1);
        check.due("not own", comeWith(host, FROM, Hosts.local(8)), 0);
        check.due("the headers are gone", host.header(6, 0), 1);
        check.due("one header", host.come(FROM, OWN), 1);
        host.prefix(5, 2, 100, 0);
        host.prefix(6, 2, 100, 100);
        host.told(Hosts.address(6, 7), 1, 0);
        host.tick(2);
        check.due("deprecated", comeWith(host, FROM, Hosts.address(5, 7)), 1);
        check.due("duplicate", comeWith(host, FROM, Hosts.address(6, 7)), 0);
        check.due("taken", host.count(8), 4);
        check.due("no fault for others", comeWith(host, FROM, Hosts.local(8), 7, 0), 0);
        check.due("bucket", host.count(9), 3);
    }

    private static void refusesWrongArguments() {
        check.under("IllegalArgumentException: from is no address (it may be NONE), or to neither "
                + "one nor GROUP.");
        int[][] wrong = {
            {-1, OWN}, {255, OWN}, {256, OWN}, {511, OWN}, {Hosts.GROUP, OWN},
            {Hosts.address(251, 1), OWN}, {FROM, 0}, {FROM, 255}, {FROM, 511}, {FROM, -1},
            {FROM, 65534}, {FROM, 65536}, {FROM, Hosts.address(251, 7)},
        };
        LinkHost host = Hosts.ready(7);
        LinkHost down = Hosts.down(7);
        host.header(6, 0);
        for (int[] w : wrong) {
            String call = "come(" + w[0] + ", " + w[1] + ")";
            check.badArgument(call, () -> host.come(w[0], w[1]));
            check.badArgument(call + " while down", () -> down.come(w[0], w[1]));
        }
        check.due("the headers stay", host.header(6, 0), 2);
    }

    private static void refusesWhileDown() {
        check.under("IllegalStateException: the host is down. (The headers stay when it throws.)");
        LinkHost down = Hosts.down(7);
        down.header(6, 0);
        check.badState("come", () -> down.come(FROM, OWN));
        check.badState("come to GROUP", () -> down.come(FROM, Hosts.GROUP));
        check.due("nothing is taken", down.count(8), 0);
        check.due("the headers stay", down.header(6, 0), 2);
    }
}
