/** What is told: promises 1 to 9. */
public final class TellTest {
    private static final Check CHECK = new Check("TellTest");

    /** Three STATIONS, and a TRAIN from the first one by the second one to the third one. */
    private static Throughcoach line() {
        Throughcoach x = new Throughcoach();
        x.station(0, 0);
        x.station(1, 0);
        x.station(2, 1);
        x.train(0, 100, 500);
        x.stop(0, 1, 60, 50, 5);
        x.stop(0, 2, 70, 80, 0);
        return x;
    }

    private static void newObject() {
        Throughcoach x = new Throughcoach();
        CHECK.index("1: no STATION", () -> x.train(0, 0, 0));
        CHECK.index("1: no TRAIN", () -> x.patience(0, 0));
        CHECK.index("1: no COACH", () -> x.takeOut(0));
        CHECK.index("1: no PERSON", () -> x.personOf(0, 0));
        CHECK.due("1: homes", 0, x::homes);
        CHECK.due("1: paid", 0, x::paid);
        CHECK.due("1: owes", 0, () -> x.owes(0, 5));
        CHECK.due("1: another object is untouched", 0, () -> {
            line().station(0, 0);
            return x.station(0, 0);
        });
    }

    private static void station() {
        Throughcoach x = new Throughcoach();
        CHECK.argument("2: land below", () -> x.station(-1, 0));
        CHECK.argument("2: land above", () -> x.station(6, 0));
        CHECK.argument("2: gauge below", () -> x.station(0, -1));
        CHECK.argument("2: gauge above", () -> x.station(0, 2));
        CHECK.argument("2: far off", () -> x.station(Integer.MIN_VALUE, Integer.MAX_VALUE));
        for (int i = 0; i < 10; i++) {
            int number = i;
            CHECK.due("2: number", number, () -> x.station(number % 6, number % 2));
        }
        CHECK.state("2: the eleventh", () -> x.station(5, 1));
        CHECK.argument("2: a wrong eleventh", () -> x.station(6, 1));
    }

    private static void train() {
        Throughcoach x = new Throughcoach();
        x.station(0, 0);
        CHECK.index("3: STATION below", () -> x.train(-1, 0, 0));
        CHECK.index("3: STATION above", () -> x.train(1, 0, 0));
        CHECK.index("3: STATION first", () -> x.train(1, -1, -1));
        CHECK.argument("3: departure below", () -> x.train(0, -1, 0));
        CHECK.argument("3: departure above", () -> x.train(0, 1440, 0));
        CHECK.argument("3: pulls below", () -> x.train(0, 0, -1));
        CHECK.argument("3: pulls above", () -> x.train(0, 0, 1001));
        for (int i = 0; i < 6; i++) {
            int number = i;
            CHECK.due("3: number", number, () -> x.train(0, number % 2 * 1439, number % 2 * 1000));
        }
        CHECK.state("3: the seventh", () -> x.train(0, 0, 0));
        CHECK.argument("3: a wrong seventh", () -> x.train(0, 1440, 0));
        CHECK.index("3: a seventh from nowhere", () -> x.train(1, 1440, 0));
        CHECK.due("3: it has the STOP 0", 0, () -> x.arrives(5, 0));
        CHECK.index("3: and no other", () -> x.arrives(5, 1));
    }

    private static void stop() {
        Throughcoach x = new Throughcoach();
        for (int i = 0; i < 8; i++) {
            x.station(0, 0);
        }
        x.train(0, 0, 0);
        CHECK.index("4: TRAIN below", () -> x.stop(-1, 1, 1, 1, 0));
        CHECK.index("4: TRAIN above", () -> x.stop(1, 1, 0, 1, 0));
        CHECK.index("4: STATION below", () -> x.stop(0, -1, 1, 0, 0));
        CHECK.index("4: STATION above", () -> x.stop(0, 8, 1, 1, -1));
        CHECK.argument("4: run below", () -> x.stop(0, 0, 0, 1, 0));
        CHECK.argument("4: run above", () -> x.stop(0, 1, 301, 1, 0));
        CHECK.argument("4: kilometres below", () -> x.stop(0, 1, 1, 0, 0));
        CHECK.argument("4: kilometres above", () -> x.stop(0, 1, 1, 501, 0));
        CHECK.argument("4: stay below", () -> x.stop(0, 1, 1, 1, -1));
        CHECK.argument("4: stay above", () -> x.stop(0, 1, 1, 1, 61));
        CHECK.state("4: where it begins", () -> x.stop(0, 0, 1, 1, 0));
        for (int i = 1; i < 6; i++) {
            int number = i;
            CHECK.due("4: number", number, () -> x.stop(0, number, number % 2 * 299 + 1, number % 2 * 499 + 1, 60));
            CHECK.state("4: where it has a STOP", () -> x.stop(0, number, 1, 1, 0));
        }
        CHECK.state("4: the seventh", () -> x.stop(0, 6, 1, 1, 0));
        CHECK.argument("4: a wrong seventh", () -> x.stop(0, 6, 1, 1, 61));
        CHECK.due("4: another TRAIN", 1, () -> {
            x.train(7, 0, 0);
            return x.stop(1, 1, 1, 1, 0);
        });
    }

    private static void patience() {
        Throughcoach x = line();
        CHECK.index("5: TRAIN below", () -> x.patience(-1, 0));
        CHECK.index("5: TRAIN above", () -> x.patience(1, 181));
        CHECK.argument("5: minutes below", () -> x.patience(0, -1));
        CHECK.argument("5: minutes above", () -> x.patience(0, 181));
        CHECK.due("5: 0 at first", 0, () -> x.patience(0, 180));
        CHECK.due("5: the one before", 180, () -> x.patience(0, 7));
        CHECK.argument("5: wrong minutes", () -> x.patience(0, 200));
        CHECK.due("5: unchanged by an exception", 7, () -> x.patience(0, 0));
    }

    private static void late() {
        Throughcoach x = line();
        CHECK.index("6: TRAIN below", () -> x.late(-1, 1, 0));
        CHECK.index("6: TRAIN above", () -> x.late(1, 1, 0));
        CHECK.index("6: the STOP 0", () -> x.late(0, 0, 301));
        CHECK.index("6: STOP below", () -> x.late(0, -1, 0));
        CHECK.index("6: STOP above", () -> x.late(0, 3, -1));
        CHECK.argument("6: minutes below", () -> x.late(0, 1, -1));
        CHECK.argument("6: minutes above", () -> x.late(0, 2, 301));
        CHECK.due("6: 0 at first", 0, () -> x.late(0, 1, 300));
        CHECK.due("6: by STOPS", 0, () -> x.late(0, 2, 9));
        CHECK.due("6: how late it was", 300, () -> x.late(0, 1, 20));
        CHECK.due("6: on the run to the STOP 1", 180, () -> x.arrives(0, 1));
        CHECK.due("6: and to the STOP 2", 185 + 70 + 9 + 15, () -> x.arrives(0, 2));
    }

    private static void coach() {
        Throughcoach x = line();
        CHECK.index("7: STATION below", () -> x.coach(-1, 0, 0, 20, 0, 0, false));
        CHECK.index("7: STATION above", () -> x.coach(3, 6, 0, 20, 0, 0, false));
        CHECK.argument("7: land below", () -> x.coach(0, -1, 0, 20, 0, 0, false));
        CHECK.argument("7: land above", () -> x.coach(0, 6, 0, 20, 0, 0, false));
        CHECK.argument("7: kind below", () -> x.coach(0, 0, -1, 20, 0, 0, false));
        CHECK.argument("7: kind above", () -> x.coach(0, 0, 3, 20, 0, 0, false));
        CHECK.argument("7: weight below", () -> x.coach(0, 0, 0, 19, 0, 0, false));
        CHECK.argument("7: weight above", () -> x.coach(0, 0, 0, 61, 0, 0, false));
        CHECK.argument("7: brake below", () -> x.coach(0, 0, 0, 20, -1, 0, false));
        CHECK.argument("7: brake above", () -> x.coach(0, 0, 0, 20, 81, 0, false));
        CHECK.argument("7: lands below", () -> x.coach(0, 0, 0, 20, 0, -1, false));
        CHECK.argument("7: lands above", () -> x.coach(0, 0, 0, 20, 0, 64, false));
        for (int i = 0; i < 10; i++) {
            int number = i;
            CHECK.due("7: number", number, () -> x.coach(number % 3, number % 6, number % 3, 20 + number % 2 * 40,
                    number % 2 * 80, number % 2 * 63, number % 2 == 0));
        }
        CHECK.state("7: the eleventh", () -> x.coach(0, 0, 0, 20, 0, 0, false));
        CHECK.argument("7: a wrong eleventh", () -> x.coach(0, 0, 0, 20, 0, 64, false));
        for (int i = 0; i < 10; i++) {
            int number = i;
            CHECK.due("7: where it stands", number % 3, () -> x.coachOf(number, 0));
        }
    }

    private static void part() {
        Throughcoach x = line();
        x.train(2, 900, 500);
        x.stop(1, 1, 60, 50, 5);
        x.stop(1, 0, 60, 50, 5);
        x.coach(0, 0, 0, 20, 20, 63, true);
        CHECK.index("8: COACH below", () -> x.part(-1, 0, 1));
        CHECK.index("8: COACH above", () -> x.part(1, 0, 1));
        CHECK.index("8: TRAIN below", () -> x.part(0, -1, 1));
        CHECK.index("8: TRAIN above", () -> x.part(0, 2, 1));
        CHECK.index("8: STATION below", () -> x.part(0, 0, -1));
        CHECK.index("8: STATION above", () -> x.part(0, 0, 3));
        CHECK.state("8: to where it is from", () -> x.part(0, 0, 0));
        CHECK.state("8: to a STOP ahead", () -> x.part(0, 1, 1));
        CHECK.due("8: the first one", 1, () -> x.part(0, 0, 2));
        CHECK.state("8: from where the first one leads", () -> x.part(0, 0, 1));
        CHECK.due("8: the second one", 2, () -> x.part(0, 1, 1));
        CHECK.due("8: the third one", 3, () -> x.part(0, 1, 0));
        CHECK.state("8: the fourth one", () -> x.part(0, 0, 1));
        CHECK.index("8: a wrong fourth one", () -> x.part(0, 2, 1));
        x.train(0, 0, 0);
        x.coach(1, 0, 0, 20, 20, 63, true);
        CHECK.state("8: the TRAIN has no STOP at the first STATION", () -> x.part(1, 2, 0));
        x.coach(0, 0, 0, 20, 20, 63, true);
        CHECK.state("8: nor at the other one", () -> x.part(2, 2, 1));
        CHECK.due("8: but if it is told", 1, () -> {
            x.stop(2, 1, 10, 10, 0);
            return x.part(2, 2, 1);
        });
        x.takeOut(2);
        CHECK.state("8: taken out", () -> x.part(2, 0, 2));
        CHECK.index("8: taken out, and no TRAIN", () -> x.part(2, 9, 2));
        CHECK.due("8: from where it stands at first", 1, () -> x.part(1, 0, 2));
    }

    private static void takeOut() {
        Throughcoach x = line();
        x.coach(0, 0, 0, 20, 20, 63, true);
        x.part(0, 0, 1);
        CHECK.index("9: COACH below", () -> x.takeOut(-1));
        CHECK.index("9: COACH above", () -> x.takeOut(1));
        CHECK.due("9: it is home", 1, x::homes);
        CHECK.due("9: nobody sleeps in it", 0, () -> x.takeOut(0));
        CHECK.due("9: it does nothing", 0, x::homes);
        CHECK.due("9: it was taken out", 1, () -> x.coachOf(0, 5));
        CHECK.state("9: again", () -> x.takeOut(0));
    }

    public static void main(String[] args) {
        newObject();
        station();
        train();
        stop();
        patience();
        late();
        coach();
        part();
        takeOut();
        CHECK.end();
    }
}
