/** PERSONS: promises 9 to 12, and 22 to 25. */
public final class PersonTest {
    private static final Check CHECK = new Check("PersonTest");
    private static final boolean WOMAN = true, MAN = false;

    /** Two STATIONS, two TRAINS from the first one to the second one, and COACHES of the kinds at the first one. */
    private static Throughcoach coaches(int... kinds) {
        Throughcoach x = new Throughcoach();
        x.station(0, 0);
        x.station(0, 0);
        for (int i = 0; i < 2; i++) {
            x.train(0, 0, 1000);
            x.stop(i, 1, 10, 10, 0);
        }
        for (int kind : kinds) {
            x.coach(0, 0, kind, 20, 20, 63, true);
        }
        return x;
    }

    /** The COACH, room and bed of a PERSON. */
    private static String where(Throughcoach x, int person) {
        return x.personOf(person, 0) + " " + x.personOf(person, 1) + " " + x.personOf(person, 2);
    }

    private static void wrongBooks() {
        Throughcoach x = coaches(Throughcoach.SEATS);
        CHECK.index("10: COACH below", () -> x.book(-1, WOMAN, 30, 0));
        CHECK.index("10: COACH above", () -> x.book(1, WOMAN, 100, 0));
        CHECK.argument("10: age below", () -> x.book(0, WOMAN, -1, 0));
        CHECK.argument("10: age above", () -> x.book(0, WOMAN, 100, 0));
        CHECK.argument("10: party below", () -> x.book(0, WOMAN, 30, -1));
        CHECK.argument("10: party above", () -> x.book(0, WOMAN, 30, 10));
        x.takeOut(0);
        CHECK.state("10: taken out", () -> x.book(0, WOMAN, 30, 0));
        CHECK.argument("10: taken out, and a wrong age", () -> x.book(0, WOMAN, 100, 0));
    }

    private static void books() {
        Throughcoach x = coaches(Throughcoach.ROOMS);
        CHECK.due("10: the first number", 0, () -> x.book(0, WOMAN, 59, 1));
        CHECK.due("10: below 60 the highest bed", "0 0 2", () -> where(x, 0));
        CHECK.due("10: the next number", 1, () -> x.book(0, WOMAN, 60, 2));
        CHECK.due("10: from 60 on the lowest bed", "0 0 0", () -> where(x, 1));
        x.book(0, MAN, 0, 1);
        CHECK.due("10: a man not to women of several parties", "0 1 2", () -> where(x, 2));
        x.book(0, MAN, 99, 9);
        CHECK.due("10: men together", "0 1 0", () -> where(x, 3));
        x.book(0, WOMAN, 99, 1);
        CHECK.due("10: the lowest bed that is free", "0 0 1", () -> where(x, 4));
        x.book(0, WOMAN, 30, 3);
        CHECK.due("10: a woman not to men", "0 2 2", () -> where(x, 5));
        x.book(0, MAN, 30, 3);
        CHECK.due("10: a man to a woman of his party, but to men ahead", "0 1 1", () -> where(x, 6));
        x.book(0, MAN, 30, 3);
        CHECK.due("10: a man to a woman of his party", "0 2 1", () -> where(x, 7));
        x.book(0, WOMAN, 30, 4);
        CHECK.due("10: a woman of another party not to both", "0 3 2", () -> where(x, 8));
    }

    private static void fullCoach() {
        Throughcoach x = coaches(Throughcoach.ROOMS, Throughcoach.ROOMS, Throughcoach.ROOMS);
        for (int i = 0; i < 6; i++) {
            x.book(0, i % 2 == 0, 20, i);
            x.book(0, i % 2 == 1, 70, i);
        }
        CHECK.due("24: none of another party", false, () -> x.holds(0, WOMAN, 6));
        CHECK.due("24: one of the party of the highest room", true, () -> x.holds(0, WOMAN, 5));
        CHECK.state("10: no room has place", () -> x.book(0, MAN, 30, 6));
        CHECK.due("10: no number is lost by it", 12, () -> x.book(0, MAN, 30, 5));
        CHECK.due("10: the middle bed", "0 5 1", () -> where(x, 12));
        CHECK.due("24: no bed is free", false, () -> x.holds(0, WOMAN, 5));
        CHECK.state("10: no bed is free", () -> x.book(0, MAN, 30, 5));
        for (int i = 13; i < 40; i++) {
            int number = i;
            CHECK.due("10: up to 40", number, () -> x.book(number < 31 ? 1 : 2, WOMAN, 30, 0));
        }
        CHECK.state("10: the 41st", () -> x.book(2, WOMAN, 30, 0));
        CHECK.argument("10: a wrong 41st", () -> x.book(2, WOMAN, 30, 10));
        CHECK.due("24: the beds alone count", true, () -> x.holds(2, WOMAN, 0));
        x.leave(39);
        CHECK.state("10: those who left count", () -> x.book(2, WOMAN, 30, 0));
    }

    private static void leave() {
        Throughcoach x = coaches(Throughcoach.ROOMS);
        CHECK.index("11: PERSON below", () -> x.leave(-1));
        CHECK.index("11: PERSON above", () -> x.leave(0));
        for (int i = 0; i < 8; i++) {
            x.book(0, WOMAN, 30, 0);
        }
        CHECK.due("11: the room and the bed", 21, () -> x.leave(7));
        CHECK.due("11: in the room 0", 2, () -> x.leave(0));
        CHECK.due("11: nowhere", "-1 -1 -1", () -> where(x, 7));
        CHECK.due("11: the bed is free", Throughcoach.NONE, () -> x.sleeper(0, 2, 1));
        CHECK.state("11: twice", () -> x.leave(7));
        CHECK.due("11: a free bed is found again", 8, () -> x.book(0, WOMAN, 30, 0));
        CHECK.due("11: it is the lowest one", "0 0 2", () -> where(x, 8));
        CHECK.due("11: nothing is paid", 0, () -> x.personOf(7, 3));
    }

    private static void swap() {
        Throughcoach x = coaches(Throughcoach.ROOMS, Throughcoach.SEATS);
        x.book(0, WOMAN, 30, 1);
        x.book(0, WOMAN, 70, 1);
        x.book(1, MAN, 30, 1);
        x.book(1, MAN, 30, 2);
        x.book(0, MAN, 30, 1);
        CHECK.due("12: of one party", "0 0 1", () -> where(x, 4));
        CHECK.index("12: PERSON below", () -> run(() -> x.swap(-1, 0)));
        CHECK.index("12: PERSON above", () -> run(() -> x.swap(0, 5)));
        CHECK.index("12: no such PERSON twice", () -> run(() -> x.swap(5, 5)));
        CHECK.argument("12: both are the same", () -> run(() -> x.swap(4, 4)));
        CHECK.state("12: the first room", () -> run(() -> x.swap(1, 3)));
        CHECK.state("12: the other room", () -> run(() -> x.swap(3, 1)));
        CHECK.state("12: one room alone", () -> run(() -> x.swap(0, 2)));
        CHECK.state("12: the same room alone, told the other way", () -> run(() -> x.swap(2, 0)));
        CHECK.due("12: unchanged by an exception", "0 0 2", () -> where(x, 0));
        CHECK.due("12: men change, of one party each", null, () -> run(() -> x.swap(4, 2)));
        CHECK.due("12: the one", "1 0 2", () -> where(x, 4));
        CHECK.due("12: the other one", "0 0 1", () -> where(x, 2));
        CHECK.due("12: the bed of the one", 4, () -> x.sleeper(1, 0, 2));
        CHECK.due("12: the bed of the other one", 2, () -> x.sleeper(0, 0, 1));
        CHECK.due("12: in a room, whatever the age", null, () -> run(() -> x.swap(0, 1)));
        CHECK.due("12: the old one is above then", "0 0 2", () -> where(x, 1));
        CHECK.due("12: the other one below", "0 0 0", () -> where(x, 0));
        x.leave(4);
        CHECK.state("12: nowhere", () -> run(() -> x.swap(4, 0)));
        CHECK.state("12: nowhere, told the other way", () -> run(() -> x.swap(0, 4)));
        CHECK.argument("12: the same, nowhere", () -> run(() -> x.swap(4, 4)));
    }

    private static Object run(Runnable call) {
        call.run();
        return null;
    }

    private static void movesToOtherKinds() {
        Throughcoach x = coaches(Throughcoach.BEDS, Throughcoach.SEATS, Throughcoach.ROOMS, Throughcoach.BEDS);
        for (int i = 0; i < 4; i++) {
            x.part(i, 0, 1);
        }
        x.book(0, WOMAN, 30, 1);
        x.book(0, WOMAN, 70, 1);
        x.book(3, MAN, 30, 1);
        CHECK.due("9: all find one", 0, () -> x.takeOut(0));
        CHECK.due("9: in a better kind, the lowest COACH", "2 0 2", () -> where(x, 0));
        CHECK.due("9: by rising numbers", "2 0 0", () -> where(x, 1));
        CHECK.due("9: the old beds are free", Throughcoach.NONE, () -> x.sleeper(0, 0, 2));
        CHECK.due("24: taken out or not", true, () -> x.holds(0, MAN, 0));
        CHECK.due("9: ROOMS for ROOMS alone", 2, () -> x.takeOut(2));
        CHECK.due("22: nowhere", "-1 -1 -1", () -> where(x, 1));
        CHECK.due("22: paid for one PART", 50, () -> x.personOf(1, 3));
        CHECK.due("25: together", 100, x::paid);
        CHECK.due("9: not in one that was taken out", 1, () -> x.takeOut(3));
        CHECK.due("25: and more", 150, x::paid);
        x.book(1, MAN, 30, 1);
        CHECK.due("9: nobody else", 1, () -> x.takeOut(1));
        CHECK.due("25: in all", 200, x::paid);
    }

    private static void movesByFirstParts() {
        Throughcoach x = coaches(0, 0, 0, 0, 0);
        x.station(0, 0);
        x.train(2, 0, 1000);
        x.stop(2, 0, 10, 10, 0);
        x.stop(2, 1, 10, 10, 0);
        x.stop(0, 2, 10, 10, 0);
        x.coach(2, 0, 0, 20, 20, 63, true);
        x.part(0, 0, 1);
        x.part(0, 0, 2);
        x.part(0, 2, 0);
        x.part(1, 1, 1);
        x.part(3, 0, 2);
        x.part(5, 2, 1);
        for (int i = 0; i < 19; i++) {
            x.book(i < 18 ? 0 : 3, MAN, 30, 1);
        }
        CHECK.due("9: all but one find one", 1, () -> x.takeOut(0));
        CHECK.due("9: with the same TRAIN, wherever it leads", "3 0 1", () -> where(x, 0));
        CHECK.due("9: up to the last bed", "3 5 0", () -> where(x, 16));
        CHECK.due("9: the last one not", "-1 -1 -1", () -> where(x, 17));
        CHECK.due("22: paid for each PART", 150, () -> x.personOf(17, 3));
        CHECK.due("25: together", 150, x::paid);
        x.book(5, MAN, 30, 1);
        CHECK.due("9: the same TRAIN from another STATION", 1, () -> {
            x.coach(0, 0, 0, 20, 20, 63, true);
            x.part(6, 2, 1);
            return x.takeOut(5);
        });
        x.book(4, MAN, 30, 1);
        CHECK.due("9: without PARTS none", 1, () -> x.takeOut(4));
        CHECK.due("22: and nothing is paid", 0, () -> x.personOf(20, 3));
        CHECK.due("25: together still", 200, x::paid);
    }

    private static void asked() {
        Throughcoach x = coaches(Throughcoach.ROOMS);
        CHECK.index("22: PERSON above", () -> x.personOf(0, 4));
        CHECK.due("25: nothing", 0, x::paid);
        x.book(0, MAN, 30, 4);
        CHECK.index("22: PERSON below", () -> x.personOf(-1, 0));
        CHECK.argument("22: what below", () -> x.personOf(0, -1));
        CHECK.argument("22: what above", () -> x.personOf(0, 4));
        CHECK.due("22: nothing was paid", 0, () -> x.personOf(0, 3));
        CHECK.index("23: COACH below", () -> x.sleeper(-1, 0, 0));
        CHECK.index("23: COACH above", () -> x.sleeper(1, 6, 0));
        CHECK.argument("23: room below", () -> x.sleeper(0, -1, 0));
        CHECK.argument("23: room above", () -> x.sleeper(0, 6, 0));
        CHECK.argument("23: bed below", () -> x.sleeper(0, 0, -1));
        CHECK.argument("23: bed above", () -> x.sleeper(0, 0, 3));
        CHECK.due("23: who", 0, () -> x.sleeper(0, 0, 2));
        CHECK.due("23: nobody", Throughcoach.NONE, () -> x.sleeper(0, 5, 2));
        CHECK.index("24: COACH below", () -> x.holds(-1, MAN, 0));
        CHECK.index("24: COACH above", () -> x.holds(1, MAN, 10));
        CHECK.argument("24: party below", () -> x.holds(0, MAN, -1));
        CHECK.argument("24: party above", () -> x.holds(0, MAN, 10));
        CHECK.due("24: holds", true, () -> x.holds(0, WOMAN, 9));
    }

    public static void main(String[] args) {
        wrongBooks();
        books();
        fullCoach();
        leave();
        swap();
        movesToOtherKinds();
        movesByFirstParts();
        asked();
        CHECK.end();
    }
}
