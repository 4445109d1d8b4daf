/** The edges that the section 'Terms' and promise 1 name, a test for each sentence. */
public final class EdgesOfTermsTest {
    private static final Checks CHECKS = new Checks();

    public static void main(String[] args) {
        CHECKS.test("An object is used for at most 512 calls after it has been made", EdgesOfTermsTest::all512Calls);
        CHECKS.test("ENDPOINTS have numbers 0 .. 15.", EdgesOfTermsTest::endpoints);
        CHECKS.test("NOW is 0 at first.", EdgesOfTermsTest::nowAtFirst);
        CHECKS.test("a number (0, 1, .., in the order in which they are made; one row for all)", EdgesOfTermsTest::oneRowOfNumbers);
        CHECKS.test("they happen in the order of their times", EdgesOfTermsTest::orderOfTimes);
        CHECKS.test("of equals the lower number first", EdgesOfTermsTest::equalTimes);
        CHECKS.test("of equals the lower number first (200 messages)", EdgesOfTermsTest::manyEqualTimes);
        CHECKS.test("NOW is the event's time then.", EdgesOfTermsTest::nowIsTheEventsTime);
        CHECKS.test("There is at most one alarm and one sync of each endpoint", EdgesOfTermsTest::oneTimerOfEach);
        CHECKS.test("one that is made anew takes the place of the one before", EdgesOfTermsTest::madeAnew);
        CHECKS.test("with a new number", EdgesOfTermsTest::madeAnewWithANewNumber);
        CHECKS.test("numbers are never given again", EdgesOfTermsTest::numbersNeverAgain);
        CHECKS.test("An event may be for NOW.", EdgesOfTermsTest::eventsForNow);
        CHECKS.test("LOST, if the two are PARTED (exactly one of them is in the set", EdgesOfTermsTest::exactlyOneInTheSet);
        CHECKS.test("or 200 are on their way", EdgesOfTermsTest::twoHundred);
        CHECKS.test("or 200 are on their way (and no more when one has gone)", EdgesOfTermsTest::roomAgain);
        CHECKS.test("or 200 are on their way (timers are no messages)", EdgesOfTermsTest::timersBesideMessages);
        CHECKS.test("Else (only then it is an event, with a number)", EdgesOfTermsTest::lostHasNoNumber);
        CHECKS.test("the DELAY of this link (3 at first", EdgesOfTermsTest::delayAtFirst);
        CHECKS.test("as it is when it is sent)", EdgesOfTermsTest::delayWhenSent);
        CHECKS.test("Arriving, it is lost, if the two are parted", EdgesOfTermsTest::partedWhenArriving);
        CHECKS.test("or the one it comes to is DOWN.", EdgesOfTermsTest::downWhenArriving);
        CHECKS.test("THE TAPE is a row of at most 2048 bytes", EdgesOfTermsTest::longestTape);
        CHECKS.test("empty at first.", EdgesOfTermsTest::tapeAtFirst);
        CHECKS.test("`NONE = -1`: Nothing there.", EdgesOfTermsTest::none);
        CHECKS.test("Promise 1: All is as at first: no events", EdgesOfTermsTest::noEventsAtFirst);
        CHECKS.test("Promise 1: no noise", EdgesOfTermsTest::noNoiseAtFirst);
        CHECKS.test("Promise 1: nobody parted off or down.", EdgesOfTermsTest::nobodyPartedOrDownAtFirst);
        CHECKS.test("Promise 1: a new object (not one that knows of another)", EdgesOfTermsTest::objectsAreApart);
        CHECKS.end();
    }

    private static void all512Calls() {
        NetWires net = new NetWires();
        for (int i = 0; i < 255; i++) {
            net.alarm(0, 100000);
            net.step();
        }
        CHECKS.same("call 511: NOW", net.count(0), 25500000);
        CHECKS.same("call 512: the time of the oldest kept", net.happened(31, 1), 22400000);
        NetWires other = new NetWires();
        other.send(0, 1);
        for (int i = 0; i < 509; i++) {
            other.meddle(0, 2, 1000);
        }
        CHECKS.same("call 511: the latest arrival", other.message(0, 2), 509003);
        CHECKS.same("call 512: its number", other.message(0, 3), 509);
    }

    private static void endpoints() {
        NetWires net = new NetWires();
        for (int e : new int[] {0, 15}) {
            CHECKS.same("send(" + e + ", 7)", net.send(e, 7), 1);
            CHECKS.same("send(7, " + e + ")", net.send(7, e), 1);
            CHECKS.same("delay(" + e + ", 7, 3)", net.delay(e, 7, 3), 3);
            CHECKS.same("delay(7, " + e + ", 3)", net.delay(7, e, 3), 3);
            CHECKS.fails("alarm(" + e + ", 1)", net.alarm(e, 1));
            CHECKS.fails("sync(" + e + ", 1)", net.sync(e, 1));
            CHECKS.same("when(" + e + ", 0)", net.when(e, 0), 1);
            CHECKS.same("when(" + e + ", 1)", net.when(e, 1), 1);
            CHECKS.holds("noAlarm(" + e + ")", net.noAlarm(e));
            CHECKS.holds("noSync(" + e + ")", net.noSync(e));
        }
        for (int e : Edges.beyond(0, 15)) {
            CHECKS.raises("send(" + e + ", 7)", Edges.INDEX, () -> net.send(e, 7));
            CHECKS.raises("send(7, " + e + ")", Edges.INDEX, () -> net.send(7, e));
            CHECKS.raises("delay(" + e + ", 7, 3)", Edges.INDEX, () -> net.delay(e, 7, 3));
            CHECKS.raises("delay(7, " + e + ", 3)", Edges.INDEX, () -> net.delay(7, e, 3));
            CHECKS.raises("alarm(" + e + ", 1)", Edges.INDEX, () -> Edges.bit(net.alarm(e, 1)));
            CHECKS.raises("sync(" + e + ", 1)", Edges.INDEX, () -> Edges.bit(net.sync(e, 1)));
            CHECKS.raises("when(" + e + ", 0)", Edges.INDEX, () -> net.when(e, 0));
            CHECKS.raises("when(" + e + ", 1)", Edges.INDEX, () -> net.when(e, 1));
            CHECKS.raises("noAlarm(" + e + ")", Edges.INDEX, () -> Edges.bit(net.noAlarm(e)));
            CHECKS.raises("noSync(" + e + ")", Edges.INDEX, () -> Edges.bit(net.noSync(e)));
        }
    }

    private static void nowAtFirst() {
        NetWires net = new NetWires();
        CHECKS.same("NOW", net.count(0), 0);
        net.alarm(0, 7);
        CHECKS.same("7 ticks from 0", net.when(0, 0), 7);
        net.send(0, 1);
        CHECKS.same("3 ticks from 0", net.message(0, 2), 3);
    }

    private static void oneRowOfNumbers() {
        NetWires net = new NetWires();
        net.sync(1, 30);
        net.send(1, 2);
        net.alarm(1, 20);
        net.send(1, 2);
        CHECKS.same("the next number", net.count(5), 4);
        CHECKS.same("the first message's", net.message(0, 3), 1);
        CHECKS.same("the second message's", net.message(1, 3), 3);
        net.run(100);
        CHECKS.same("the sync's", net.happened(0, 2), 0);
        CHECKS.same("the alarm's", net.happened(1, 2), 2);
    }

    private static void orderOfTimes() {
        NetWires net = new NetWires();
        net.delay(0, 3, 4);
        net.delay(0, 4, 1);
        net.alarm(1, 5);
        net.send(0, 3);
        net.sync(1, 3);
        net.alarm(2, 2);
        net.send(0, 4);
        net.sync(2, 0);
        int[] due = {50, 4, 34, 49, 3, 33, Edges.NONE};
        for (int answer : due) {
            CHECKS.same("the later made, the earlier it happens: step()", net.step(), answer);
        }
    }

    private static void equalTimes() {
        for (String order : new String[] {"ASM", "AMS", "SAM", "SMA", "MAS", "MSA"}) {
            NetWires net = new NetWires();
            net.run(2);
            for (char kind : order.toCharArray()) {
                make(net, kind);
            }
            for (char kind : order.toCharArray()) {
                CHECKS.same("made as " + order + ": step()", net.step(), kind == 'A' ? 36 : kind == 'S' ? 52 : 4);
                CHECKS.same("made as " + order + ": NOW", net.count(0), 5);
            }
        }
    }

    /** An event of endpoint 4, three ticks from NOW. */
    private static void make(NetWires net, char kind) {
        if (kind == 'A') {
            net.alarm(4, 3);
        } else if (kind == 'S') {
            net.sync(4, 3);
        } else {
            net.send(2, 4);
        }
    }

    private static void manyEqualTimes() {
        NetWires net = new NetWires();
        for (int i = 0; i < 200; i++) {
            net.send(0, i * 7 % 16);
        }
        for (int i = 0; i < 200; i++) {
            CHECKS.same("step " + i, net.step(), i * 7 % 16);
        }
    }

    private static void nowIsTheEventsTime() {
        NetWires net = new NetWires();
        net.alarm(0, 100000);
        net.sync(0, 6);
        net.send(0, 1);
        for (int now : new int[] {3, 6, 100000}) {
            net.step();
            CHECKS.same("NOW", net.count(0), now);
        }
        net.alarm(0, 4);
        CHECKS.same("ticks from then", net.when(0, 0), 100004);
    }

    private static void oneTimerOfEach() {
        NetWires net = new NetWires();
        for (int e = 0; e < 16; e++) {
            CHECKS.fails("an alarm of another endpoint", net.alarm(e, 10));
            CHECKS.fails("a sync is no alarm", net.sync(e, 10));
        }
        for (int e = 0; e < 16; e++) {
            CHECKS.holds("an alarm anew", net.alarm(e, 9));
            CHECKS.holds("a sync anew", net.sync(e, 9));
        }
        CHECKS.same("no more than these", net.run(20), 32);
    }

    private static void madeAnew() {
        int[][] ticks = {{5, 9}, {9, 5}, {5, 5}, {0, 100}, {100, 0}};
        for (int[] t : ticks) {
            NetWires net = new NetWires();
            net.alarm(3, t[0]);
            net.sync(3, t[0]);
            net.alarm(3, t[1]);
            net.sync(3, t[1]);
            CHECKS.same("when the alarm is", net.when(3, 0), t[1]);
            CHECKS.same("when the sync is", net.when(3, 1), t[1]);
            CHECKS.same("the alarm", net.step(), 35);
            CHECKS.same("its time", net.count(0), t[1]);
            CHECKS.same("the sync", net.step(), 51);
            CHECKS.same("its time", net.count(0), t[1]);
            CHECKS.same("neither of those before", net.step(), Edges.NONE);
        }
    }

    private static void madeAnewWithANewNumber() {
        NetWires net = new NetWires();
        net.alarm(0, 8);
        net.sync(0, 8);
        net.alarm(1, 8);
        net.alarm(0, 8);
        net.sync(0, 8);
        CHECKS.same("the next number", net.count(5), 5);
        int[] answers = {33, 32, 48};
        for (int i = 0; i < answers.length; i++) {
            CHECKS.same("behind its equals: step()", net.step(), answers[i]);
            CHECKS.same("its number", net.happened(0, 2), 2 + i);
        }
    }

    private static void numbersNeverAgain() {
        NetWires net = new NetWires();
        net.alarm(0, 1);
        net.noAlarm(0);
        net.sync(0, 1);
        net.noSync(0);
        net.send(0, 1);
        net.meddle(0, 0, 0);
        net.alarm(0, 1);
        net.step();
        CHECKS.same("behind three that were taken away", net.happened(0, 2), 3);
        net.send(0, 1);
        net.meddle(0, 2, 0);
        net.step();
        CHECKS.same("behind one that was put off", net.happened(0, 2), 5);
        CHECKS.same("the next number", net.count(5), 6);
    }

    private static void eventsForNow() {
        NetWires net = new NetWires();
        net.delay(5, 6, 0);
        for (int now : new int[] {0, 40}) {
            net.alarm(5, 0);
            net.sync(5, 0);
            net.send(5, 6);
            CHECKS.same("the alarm", net.when(5, 0), now);
            CHECKS.same("the sync", net.when(5, 1), now);
            CHECKS.same("the message", net.message(0, 2), now);
            for (int answer : new int[] {37, 53, 6}) {
                CHECKS.same("step()", net.step(), answer);
                CHECKS.same("NOW stays", net.count(0), now);
            }
            net.alarm(5, 0);
            net.send(5, 6);
            CHECKS.same("those for NOW in a run", net.run(40), 2);
            CHECKS.same("when they happened", net.happened(0, 1), now);
        }
    }

    private static void exactlyOneInTheSet() {
        NetWires net = new NetWires();
        net.part(1 | 1 << 9 | 1 << 15);
        int[][] together = {{0, 9}, {15, 0}, {1, 8}, {14, 1}, {0, 0}, {15, 15}, {7, 7}};
        for (int[] t : together) {
            CHECKS.same("both or none: send(" + t[0] + ", " + t[1] + ")", net.send(t[0], t[1]), 1);
        }
        int[][] apart = {{0, 1}, {1, 0}, {15, 14}, {14, 15}, {9, 10}, {8, 9}};
        for (int[] a : apart) {
            CHECKS.same("exactly one: send(" + a[0] + ", " + a[1] + ")", net.send(a[0], a[1]), 0);
        }
        CHECKS.same("lost", net.count(3), apart.length);
        CHECKS.same("on their way", net.count(1), together.length);
    }

    private static void twoHundred() {
        NetWires net = new NetWires();
        Edges.fill(net, 198);
        CHECKS.same("the 199th", net.send(0, 1), 1);
        CHECKS.same("the 200th", net.send(0, 1), 1);
        CHECKS.same("none is lost", net.count(3), 0);
        CHECKS.same("the 201st", net.send(0, 1), 0);
        CHECKS.same("it is lost", net.count(3), 1);
        CHECKS.same("from another link", net.send(7, 8), 0);
        CHECKS.same("it is lost too", net.count(3), 2);
        CHECKS.same("on their way", net.count(1), 200);
        CHECKS.same("ever on their way", net.count(2), 200);
        CHECKS.same("all arrive", net.run(3), 200);
    }

    private static void roomAgain() {
        NetWires net = new NetWires();
        Edges.fill(net, 200);
        net.step();
        CHECKS.same("one has arrived", net.send(0, 1), 1);
        CHECKS.same("full again", net.send(0, 1), 0);
        net.meddle(0, 0, 0);
        CHECKS.same("one was meddled away", net.send(0, 1), 1);
        CHECKS.same("full again", net.send(0, 1), 0);
        net.down(2);
        net.step();
        CHECKS.same("one was lost as it arrived", net.send(0, 1), 1);
        CHECKS.same("full again", net.send(0, 1), 0);
        net.run(3);
        CHECKS.same("all have gone", net.count(1), 0);
        CHECKS.same("room again", net.send(0, 1), 1);
    }

    private static void timersBesideMessages() {
        NetWires net = new NetWires();
        for (int e = 0; e < 16; e++) {
            net.alarm(e, 5);
            net.sync(e, 5);
        }
        Edges.fill(net, 199);
        CHECKS.same("the 200th beside 32 timers", net.send(0, 1), 1);
        CHECKS.same("the 201st", net.send(0, 1), 0);
        CHECKS.holds("a timer anew beside 200 messages", net.alarm(15, 6));
        CHECKS.same("all happen", net.run(6), 232);
        CHECKS.same("the last of them", net.happened(0, 0), 47);
    }

    private static void lostHasNoNumber() {
        NetWires net = new NetWires();
        net.part(1);
        net.send(0, 1);
        CHECKS.same("one that is parted", net.count(5), 0);
        net.part(0);
        net.noise(1000, 0, 0, 1);
        net.send(0, 1);
        CHECKS.same("one that LOSS takes", net.count(5), 0);
        net.noise(0, 0, 0, 1);
        Edges.fill(net, 201);
        CHECKS.same("one beyond 200", net.count(5), 200);
        net.meddle(0, 1, 0);
        CHECKS.same("one that meddling can't send", net.count(5), 200);
        net.run(3);
        CHECKS.same("only 200 were events", net.count(4), 200);
    }

    private static void delayAtFirst() {
        for (int from = 0; from < 16; from++) {
            NetWires net = new NetWires();
            for (int to = 0; to < 16; to++) {
                net.send(from, to);
                CHECKS.same("from " + from + " to " + to, net.message(to, 2), 3);
                CHECKS.same("delay(" + from + ", " + to + ", 3)", net.delay(from, to, 3), 3);
            }
        }
    }

    private static void delayWhenSent() {
        NetWires net = new NetWires();
        net.send(0, 1);
        net.delay(0, 1, 1000);
        CHECKS.same("sent before", net.message(0, 2), 3);
        net.send(0, 1);
        net.delay(0, 1, 0);
        CHECKS.same("sent between", net.message(1, 2), 1000);
        net.send(0, 1);
        CHECKS.same("sent behind", net.message(0, 2), 0);
        net.run(10);
        net.send(0, 1);
        CHECKS.same("from NOW", net.message(0, 2), 10);
    }

    private static void partedWhenArriving() {
        int[] sets = {1 << 2, 1 << 3, 1 << 2 | 1 << 3, 0, 65535, 65535 & ~(1 << 2), 1 << 4};
        int[] answers = {19, 19, 3, 3, 3, 19, 3};
        for (int i = 0; i < sets.length; i++) {
            NetWires net = new NetWires();
            CHECKS.same("not parted when it is sent", net.send(2, 3), 1);
            net.part(sets[i]);
            CHECKS.same("parted by " + sets[i] + ": step()", net.step(), answers[i]);
            CHECKS.same("parted by " + sets[i] + ": lost", net.count(3), answers[i] / 16);
        }
        NetWires net = new NetWires();
        net.send(2, 3);
        net.part(4);
        net.part(0);
        CHECKS.same("parted only between", net.step(), 3);
    }

    private static void downWhenArriving() {
        int[] sets = {1 << 3, 65535, 1 << 2, 65535 & ~(1 << 3), 0};
        int[] answers = {19, 19, 3, 3, 3};
        for (int i = 0; i < sets.length; i++) {
            NetWires net = new NetWires();
            net.send(2, 3);
            net.down(sets[i]);
            CHECKS.same("down are " + sets[i] + ": step()", net.step(), answers[i]);
            CHECKS.same("down are " + sets[i] + ": lost", net.count(3), answers[i] / 16);
        }
        NetWires net = new NetWires();
        net.down(65535);
        CHECKS.same("down when it is sent", net.send(15, 15), 1);
        net.down(0);
        CHECKS.same("up when it arrives", net.step(), 15);
        net.send(15, 15);
        net.down(1 << 15);
        net.part(1);
        CHECKS.same("the last endpoint is down", net.step(), 31);
    }

    private static void longestTape() {
        NetWires net = new NetWires();
        Edges.feedBytes(net, 0, 2048);
        CHECKS.same("bytes on it", net.count(6), 2048);
        CHECKS.raises("one more", Edges.STATE, () -> net.feed(0, 1));
        CHECKS.same("bytes on it then", net.count(6), 2048);
        net.send(0, 1);
        for (int i : new int[] {0, 1, 127, 128, 255, 256, 2039, 2040, 2046, 2047}) {
            CHECKS.same("messageAt(0, " + i + ")", net.messageAt(0, i), i % 256);
        }
    }

    private static void tapeAtFirst() {
        NetWires net = new NetWires();
        CHECKS.same("bytes on it", net.count(6), 0);
        net.send(0, 1);
        CHECKS.same("bytes of a message that is sent then", net.message(0, 4), 0);
        CHECKS.same("the first byte", new NetWires().feed(9, 1), 1);
    }

    private static void none() {
        NetWires net = new NetWires();
        CHECKS.same("NONE", NetWires.NONE, -1);
        CHECKS.same("step()", net.step(), -1);
        CHECKS.same("message(0, 0)", net.message(0, 0), -1);
        CHECKS.same("happened(0, 0)", net.happened(0, 0), -1);
        CHECKS.same("when(0, 0)", net.when(0, 0), -1);
        CHECKS.same("count(8)", net.count(8), -1);
    }

    private static void noEventsAtFirst() {
        NetWires net = new NetWires();
        CHECKS.same("messages on their way", net.count(1), 0);
        CHECKS.same("the next number", net.count(5), 0);
        for (int e = 0; e < 16; e++) {
            CHECKS.same("the alarm of " + e, net.when(e, 0), Edges.NONE);
            CHECKS.same("the sync of " + e, net.when(e, 1), Edges.NONE);
        }
        CHECKS.same("run(1000)", net.run(1000), 0);
        CHECKS.same("step()", net.step(), Edges.NONE);
        CHECKS.same("events that happened", net.count(4), 0);
    }

    private static void noNoiseAtFirst() {
        NetWires net = new NetWires();
        for (int i = 0; i < 200; i++) {
            CHECKS.same("send " + i, net.send(0, 1), 1);
        }
        CHECKS.same("none is lost", net.count(3), 0);
        CHECKS.same("none is late", net.run(3), 200);
    }

    private static void nobodyPartedOrDownAtFirst() {
        NetWires net = new NetWires();
        for (int to = 0; to < 16; to++) {
            CHECKS.same("send(" + (15 - to) + ", " + to + ")", net.send(15 - to, to), 1);
            CHECKS.same("step()", net.step(), to);
        }
        CHECKS.same("part(0)", net.part(0), 0);
        CHECKS.same("down(0)", net.down(0), 0);
    }

    private static void objectsAreApart() {
        NetWires one = new NetWires();
        one.feed(1, 8);
        one.send(0, 1);
        one.feed(1, 8);
        one.alarm(0, 1);
        one.sync(0, 1);
        one.delay(0, 1, 9);
        one.run(9);
        one.alarm(0, 1);
        one.part(1);
        one.down(1);
        one.noise(1000, 1000, 1000, 1);
        NetWires other = new NetWires();
        CHECKS.same("part(0)", other.part(0), 0);
        CHECKS.same("down(0)", other.down(0), 0);
        CHECKS.same("delay(0, 1, 3)", other.delay(0, 1, 3), 3);
        CHECKS.sameText("the other's state", Edges.state(other), Edges.state(new NetWires()));
        CHECKS.same("send(0, 1)", other.send(0, 1), 1);
        CHECKS.same("the first one's NOW", one.count(0), 9);
    }
}
