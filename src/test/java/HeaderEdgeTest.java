/** Headers: none, six, one more; the first place and the last; when they go and when they stay. */
public final class HeaderEdgeTest {
    private static final Check check = new Check("HeaderEdgeTest");
    private static final int OWN = Hosts.local(7);
    private static final int FROM = Hosts.address(20, 9);

    public static void main(String[] args) {
        thereAreSix();
        theSixStayAsTheyWere();
        behindTheLastOne();
        hopsAsTheFirstOne();
        faultsAtEachPlace();
        dataAndEchoAtEachPlace();
        kindsThatGoOnOrEnd();
        thereAreNoHeadersThen();
        headersStayWhenItThrows();
        headersOfOneThatIsDown();
        check.end();
    }

    private static void addOptions(LinkHost host, int times) {
        for (int i = 0; i < times; i++) {
            host.header(1, 0);
        }
    }

    private static void addData(LinkHost host, int times) {
        for (int i = 0; i < times; i++) {
            host.header(6, 0);
        }
    }

    private static void thereAreSix() {
        check.under("IllegalStateException: there are 6.");
        LinkHost host = Hosts.ready(7);
        for (int i = 1; i <= 6; i++) {
            check.due("header " + i, host.header(1, 0), i);
        }
        for (int kind = 0; kind <= 9; kind++) {
            for (int number = 0; number <= 3; number++) {
                int k = kind;
                int n = number;
                check.badState("a seventh " + k + " " + n, () -> host.header(k, n));
            }
        }
        int[][] wrong = {
            {-1, 0}, {10, 0}, {0, -1}, {0, 4}, {Integer.MIN_VALUE, 0}, {Integer.MAX_VALUE, 0},
            {0, Integer.MIN_VALUE}, {0, Integer.MAX_VALUE},
        };
        for (int[] w : wrong) {
            check.badArgument("a wrong seventh " + w[0] + " " + w[1],
                    () -> host.header(w[0], w[1]));
        }
        check.due("six are looked at", host.come(FROM, OWN), 6);
        check.due("the first of the next packet", host.header(1, 0), 1);
    }

    private static void theSixStayAsTheyWere() {
        LinkHost host = Hosts.ready(7);
        addOptions(host, 5);
        host.header(6, 0);
        check.badState("a seventh", () -> host.header(4, 0));
        check.badArgument("a wrong seventh", () -> host.header(10, 0));
        check.due("looked at", host.come(FROM, OWN), 6);
        check.due("taken", host.count(8), 1);
        check.due("nothing is sent", host.count(6), 2);
    }

    private static void behindTheLastOne() {
        check.under("Behind the last one: it ends.");
        for (int to : new int[] {OWN, Hosts.GROUP}) {
            for (int headers = 0; headers <= 6; headers++) {
                LinkHost host = Hosts.ready(7);
                addOptions(host, headers);
                check.due(headers + " looked at", host.come(FROM, to), headers);
                check.due(headers + ": nothing is taken", host.count(8), 0);
                check.due(headers + ": nothing is sent", host.count(6), 2);
                check.due(headers + ": bucket", host.count(9), 3);
            }
        }
    }

    private static void hopsAsTheFirstOne() {
        check.under("0 HOPS, as the first one");
        int[] looked = {2, 1, 1, 1};
        int[] sent = {2, 2, 3, 3};
        for (int number = 0; number <= 3; number++) {
            LinkHost host = Hosts.ready(7);
            check.due("looked at " + number, Hosts.come(host, FROM, OWN, 0, number, 4, 0),
                    looked[number]);
            check.due("sent " + number, host.count(6), sent[number]);
        }
        check.under("0 elsewhere: a fault 1.");
        for (int place = 1; place <= 5; place++) {
            for (int number = 0; number <= 3; number++) {
                LinkHost host = Hosts.ready(7);
                host.header(0, 0);
                addOptions(host, place - 1);
                host.header(0, number);
                check.due("place " + place + ", number " + number, host.come(FROM, OWN),
                        place + 1);
                check.out("fault", host, 0, 6, FROM, 16 * place + 1);
            }
        }
    }

    private static void faultsAtEachPlace() {
        check.under("A fault f at header i ends it: kind 6, to where it came from, X 16 * i + f");
        int[][] kindNumberAndFault = {
            {1, 2, 2}, {1, 3, 2}, {2, 1, 0}, {2, 2, 0}, {2, 3, 0}, {7, 0, 1}, {7, 3, 1}, {8, 0, 1},
            {8, 3, 1}, {9, 0, 1}, {9, 3, 1},
        };
        for (int[] row : kindNumberAndFault) {
            for (int place = 0; place <= 5; place++) {
                LinkHost host = Hosts.ready(7);
                addOptions(host, place);
                host.header(row[0], row[1]);
                if (place < 5) {
                    host.header(6, 0);
                }
                String what = "header " + row[0] + " " + row[1] + " at " + place;
                check.due(what + ": looked at", host.come(FROM, OWN), place + 1);
                check.due(what + ": sent", host.count(6), 3);
                check.out(what, host, 0, 6, FROM, 16 * place + row[2]);
                check.due(what + ": taken", host.count(8), 0);
                check.due(what + ": bucket", host.count(9), 2);
            }
        }
    }

    private static void dataAndEchoAtEachPlace() {
        check.under("5 ECHO: ends, and an ECHO is sent .. 6 DATA: ends; it is TAKEN.");
        for (int place = 0; place <= 5; place++) {
            for (int number = 0; number <= 3; number++) {
                LinkHost host = Hosts.ready(7);
                addOptions(host, place);
                host.header(5, number);
                addData(host, 5 - place);
                check.due("echo at " + place, host.come(FROM, OWN), place + 1);
                check.out("echo at " + place, host, 0, 5, FROM, number);
                check.due("nothing behind it is taken", host.count(8), 0);
                addOptions(host, place);
                host.header(6, number);
                addData(host, 5 - place);
                check.due("data at " + place, host.come(FROM, OWN), place + 1);
                check.due("taken", host.count(8), 1);
                check.due("sent", host.count(6), 3);
            }
        }
    }

    private static void kindsThatGoOnOrEnd() {
        check.under("each a kind 0 .. 9 and a number 0 .. 3");
        int[][] goOn = {{0, 0}, {1, 0}, {2, 0}, {3, 0}};
        for (int[] header : goOn) {
            LinkHost host = Hosts.ready(7);
            check.due("goes on " + header[0], Hosts.come(host, FROM, OWN, header[0], header[1], 6,
                    0), 2);
            check.due("taken", host.count(8), 1);
            check.due("nothing is sent", host.count(6), 2);
            check.due("bucket", host.count(9), 3);
        }
        int[][] end = {
            {0, 1}, {1, 1}, {3, 1}, {3, 2}, {3, 3}, {4, 0}, {4, 1}, {4, 2}, {4, 3},
        };
        for (int[] header : end) {
            LinkHost host = Hosts.ready(7);
            String what = "ends " + header[0] + " " + header[1];
            check.due(what, Hosts.come(host, FROM, OWN, header[0], header[1], 6, 0), 1);
            check.due(what + ": taken", host.count(8), 0);
            check.due(what + ": sent", host.count(6), 2);
        }
    }

    private static void thereAreNoHeadersThen() {
        check.under("It comes; there are no headers then: how many were looked at.");
        int[] tos = {OWN, Hosts.GROUP, Hosts.local(8), Hosts.address(5, 7)};
        for (int to : tos) {
            for (int headers = 0; headers <= 6; headers++) {
                LinkHost host = Hosts.ready(7);
                for (int i = 0; i < headers; i++) {
                    host.header(4, 0);
                }
                boolean forHost = to == OWN || to == Hosts.GROUP;
                check.due(headers + " to " + to, host.come(FROM, to),
                        forHost ? Math.min(headers, 1) : 0);
                check.due("none is left", host.come(FROM, OWN), 0);
                check.due("the first of the next packet", host.header(6, 0), 1);
                check.due("and nothing but that", host.come(FROM, OWN), 1);
                check.due("taken", host.count(8), 1);
            }
        }
    }

    private static void headersStayWhenItThrows() {
        check.under("(The headers stay when it throws.)");
        int[][] wrong = {
            {-1, OWN}, {256, OWN}, {Hosts.GROUP, OWN}, {FROM, 0}, {FROM, 65534}, {FROM, 65536},
            {Integer.MIN_VALUE, OWN}, {FROM, Integer.MAX_VALUE}, {Hosts.GROUP, Hosts.NONE},
        };
        for (int headers = 1; headers <= 6; headers++) {
            LinkHost host = Hosts.ready(7);
            addOptions(host, headers - 1);
            host.header(6, 0);
            for (int[] w : wrong) {
                check.badArgument("come " + w[0] + " " + w[1], () -> host.come(w[0], w[1]));
            }
            check.due("nothing is taken", host.count(8), 0);
            check.due("all are there", host.come(FROM, OWN), headers);
            check.due("taken", host.count(8), 1);
        }
        LinkHost none = Hosts.ready(7);
        check.badArgument("come without headers", () -> none.come(-1, OWN));
        check.due("none is there", none.header(6, 0), 1);
    }

    private static void headersOfOneThatIsDown() {
        for (int before = 0; before <= 6; before++) {
            LinkHost host = new LinkHost(7);
            addOptions(host, before);
            host.asked(Hosts.NONE, OWN, 3);
            check.badState("come", () -> host.come(FROM, OWN));
            check.badState("come to GROUP", () -> host.come(FROM, Hosts.GROUP));
            check.badState("come from NONE", () -> host.come(Hosts.NONE, Hosts.GROUP));
            check.badArgument("come from GROUP", () -> host.come(Hosts.GROUP, OWN));
            for (int i = before + 1; i <= 6; i++) {
                check.due("the headers stay", host.header(1, 0), i);
            }
            check.badState("a seventh", () -> host.header(1, 0));
            check.badArgument("a wrong seventh", () -> host.header(1, 4));
        }
    }
}
