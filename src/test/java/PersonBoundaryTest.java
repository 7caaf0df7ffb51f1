import java.util.function.Consumer;
import java.util.function.Supplier;

/** The boundary cases of PERSONS, sentence by sentence: promises 9 to 12, and 22 to 25. */
public final class PersonBoundaryTest {
    private static final Check CHECK = new Check("PersonBoundaryTest");
    private static final int NONE = Throughcoach.NONE;
    private static final int SEATS = Throughcoach.SEATS, BEDS = Throughcoach.BEDS, ROOMS = Throughcoach.ROOMS;
    private static final boolean WOMAN = true, MAN = false;

    /** The call is refused by the state, and changes nothing. */
    private static void refused(String what, Supplier<Throughcoach> scene, Consumer<Throughcoach> call) {
        Throughcoach x = scene.get();
        CHECK.state(what, () -> {
            call.accept(x);
            return null;
        });
        CHECK.due(what + ", and it changes nothing", true, () -> Picture.staysAt(Picture.of(scene), scene, call));
    }

    private static void where(Throughcoach x, String what, String want, int person) {
        CHECK.due(what, want, () -> Scene.where(x, person));
    }

    private static void swapped(Throughcoach x, String what, int person, int other) {
        CHECK.due("12: " + what, null, () -> {
            x.swap(person, other);
            return null;
        });
    }

    /** Two STATIONS, two TRAINS from the one to the other one, and COACHES of the kinds at the first one. */
    private static Throughcoach coaches(int... kinds) {
        Throughcoach x = Scene.stations(3);
        Scene.train(x, 100, 0, 1, 2);
        Scene.train(x, 100, 0, 1, 2);
        for (int kind : kinds) {
            x.coach(0, 0, kind, 20, 20, 63, true);
        }
        return x;
    }

    /** The same, each COACH with a PART with the TRAIN 0. */
    private static Throughcoach withParts(int... kinds) {
        Throughcoach x = coaches(kinds);
        for (int i = 0; i < kinds.length; i++) {
            x.part(i, 0, 1);
        }
        return x;
    }

    private static void book(Throughcoach x, int count, int coach) {
        for (int i = 0; i < count; i++) {
            x.book(coach, WOMAN, 30, 0);
        }
    }

    // "PERSONS are numbered from 0, at most 40": "or there are 40 PERSONS"
    private static void fortyPersons() {
        Supplier<Throughcoach> forty = () -> {
            Throughcoach x = coaches(SEATS, BEDS, ROOMS);
            book(x, 18, 0);
            book(x, 18, 1);
            book(x, 4, 2);
            return x;
        };
        Throughcoach x = coaches(SEATS, BEDS, ROOMS);
        for (int i = 0; i < 40; i++) {
            int number = i;
            CHECK.due("10: the number behind " + number, number, () -> x.book(number / 18, WOMAN, 30, 0));
        }
        refused("10: there are 40 PERSONS", forty, y -> y.book(2, WOMAN, 30, 0));
        refused("10: there are 40 PERSONS, some of whom left", () -> {
            Throughcoach y = forty.get();
            y.leave(0);
            y.leave(39);
            return y;
        }, y -> y.book(0, WOMAN, 30, 0));
        CHECK.due("24: a bed would be free, all the same", true, () -> forty.get().holds(2, WOMAN, 0));
        CHECK.due("9: they may be moved", 0, () -> {
            Throughcoach y = withParts(SEATS, BEDS, ROOMS);
            book(y, 18, 0);
            book(y, 18, 1);
            book(y, 4, 2);
            for (int i = 22; i < 40; i++) {
                y.leave(i);
            }
            return y.takeOut(0);
        });
    }

    // "with an age of 60 or more, otherwise in the highest one", "age: 0 to 99"
    private static void ages() {
        for (int age = 0; age < 100; age++) {
            Throughcoach x = coaches(SEATS);
            x.book(0, WOMAN, age, 0);
            where(x, "10: with an age of " + age, age < 60 ? "0 0 2" : "0 0 0", 0);
        }
    }

    // "there in the lowest free bed ..., otherwise in the highest one": each of the beds may be the only free one
    private static void freeBeds() {
        for (int bed = 0; bed < 3; bed++) {
            for (int age = 59; age < 61; age++) {
                Throughcoach x = coaches(SEATS);
                book(x, 3, 0);
                x.leave(2 - bed);
                x.book(0, WOMAN, age, 0);
                where(x, "10: the only free bed", "0 0 " + bed, 3);
                Throughcoach y = coaches(SEATS);
                book(y, 3, 0);
                for (int i = 0; i < 3; i++) {
                    if (i != bed) {
                        y.leave(2 - i);
                    }
                }
                y.book(0, WOMAN, age, 0);
                int low = bed == 0 ? 1 : 0;
                int high = bed == 2 ? 1 : 2;
                where(y, "10: one of two free beds", "0 0 " + (age < 60 ? high : low), 3);
            }
        }
    }

    // "rooms, 0 to 5, of three beds each"
    private static void eighteenBeds() {
        Throughcoach x = coaches(SEATS, SEATS);
        for (int i = 0; i < 18; i++) {
            CHECK.due("24: one more", true, () -> x.holds(0, WOMAN, 0));
            x.book(0, WOMAN, 30, 0);
            where(x, "10: room by room", "0 " + i / 3 + " " + (2 - i % 3), i);
        }
        for (int i = 0; i < 18; i++) {
            int number = i;
            CHECK.due("23: who", number, () -> x.sleeper(0, number / 3, 2 - number % 3));
            CHECK.due("23: nobody", NONE, () -> x.sleeper(1, number / 3, number % 3));
        }
        CHECK.due("24: none any more", false, () -> x.holds(0, WOMAN, 0));
        refused("10: no room of it has place", () -> {
            Throughcoach y = coaches(SEATS);
            book(y, 18, 0);
            return y;
        }, y -> y.book(0, WOMAN, 30, 0));
        Throughcoach z = coaches(SEATS);
        book(z, 18, 0);
        z.leave(16);
        CHECK.due("24: one that is free again", true, () -> z.holds(0, WOMAN, 0));
        z.book(0, MAN, 60, 0);
        where(z, "10: one that is free again", "0 5 1", 18);
    }

    /** A COACH with PERSONS, each told by w or m and the party; they all sleep in the room 0. */
    private static Throughcoach room(String... persons) {
        Throughcoach x = coaches(SEATS, SEATS);
        for (String person : persons) {
            x.book(0, person.charAt(0) == 'w', 30, person.charAt(1) - '0');
        }
        for (int i = 0; i < persons.length; i++) {
            where(x, "10: in the room 0", "0 0 " + (2 - i), i);
        }
        return x;
    }

    private static void holdsBesides(boolean want, String who, String... persons) {
        Throughcoach x = room(persons);
        x.book(0, who.charAt(0) == 'w', 30, who.charAt(1) - '0');
        int number = persons.length;
        where(x, "10: " + who + " besides " + String.join(" ", persons),
                want ? "0 0 " + (2 - number) : "0 1 2", number);
    }

    // "A room may hold a PERSON besides others, if all of them are women, or none of them is, or if all of them are of
    // one party."
    private static void whoMaySleepInARoom() {
        holdsBesides(true, "w0");
        holdsBesides(true, "m9");
        holdsBesides(true, "w1", "w0");
        holdsBesides(true, "m1", "m0");
        holdsBesides(false, "m1", "w0");
        holdsBesides(false, "w0", "m1");
        holdsBesides(true, "m1", "w1");
        holdsBesides(true, "w9", "m9");
        holdsBesides(true, "w3", "w1", "w2");
        holdsBesides(true, "m3", "m1", "m2");
        holdsBesides(false, "m1", "w1", "w2");
        holdsBesides(false, "m2", "w1", "w2");
        holdsBesides(false, "w1", "m2", "m1");
        holdsBesides(true, "m1", "w1", "w1");
        holdsBesides(true, "w1", "m1", "m1");
        holdsBesides(true, "w1", "m1", "w1");
        holdsBesides(true, "m1", "m1", "w1");
        holdsBesides(false, "w2", "m1", "w1");
        holdsBesides(false, "m2", "w1", "m1");
        holdsBesides(false, "w0", "w0", "w0", "w0");
    }

    // the same sentence: who has left does not count any more
    private static void whoLeftTheRoom() {
        Throughcoach x = room("w1", "w2");
        x.leave(0);
        x.book(0, MAN, 30, 2);
        where(x, "10: besides the one who is left", "0 0 2", 2);
        Throughcoach y = room("w1");
        y.leave(0);
        y.book(0, MAN, 30, 2);
        where(y, "10: an empty room", "0 0 2", 1);
    }

    // "in its lowest room that has a free bed, and may hold the PERSON"
    private static void lowestRoom() {
        Throughcoach x = coaches(SEATS);
        book(x, 3, 0);
        x.book(0, MAN, 30, 1);
        x.book(0, WOMAN, 30, 2);
        where(x, "10: the room 0 is full, the room 1 holds a man", "0 2 2", 4);
        x.book(0, MAN, 30, 2);
        where(x, "10: both may hold him: the lower one", "0 1 1", 5);
        x.leave(1);
        x.book(0, MAN, 70, 0);
        where(x, "10: the room 0 has a free bed again", "0 0 1", 6);
        CHECK.due("24: women of the room 2", true, () -> x.holds(0, WOMAN, 9));
    }

    // "besides those who sleep there": neither those of the next room nor of the next COACH
    private static void thatRoomAlone() {
        Throughcoach x = coaches(SEATS, SEATS);
        x.book(0, WOMAN, 30, 1);
        x.book(0, MAN, 70, 2);
        x.book(0, WOMAN, 70, 3);
        where(x, "10: a woman to a woman, men in the next room", "0 0 0", 2);
        x.book(0, MAN, 30, 4);
        where(x, "10: a man to a man, women in the room ahead", "0 1 2", 3);
        Throughcoach y = coaches(SEATS, SEATS);
        y.book(1, MAN, 70, 1);
        book(y, 16, 0);
        y.book(0, WOMAN, 30, 2);
        where(y, "10: in the last room, a man in the next COACH", "0 5 1", 17);
        CHECK.due("24: in the last room, a man in the next COACH", true, () -> y.holds(0, WOMAN, 3));
    }

    // "holds: taken out or not"; "or no room of it has place": a free bed is not enough
    private static void holds() {
        Supplier<Throughcoach> mixed = () -> {
            Throughcoach x = coaches(SEATS);
            for (int i = 0; i < 12; i++) {
                x.book(0, i % 2 == 0, 30, i / 2);
            }
            return x;
        };
        for (int party = 0; party < 10; party++) {
            int of = party;
            boolean want = party < 6;
            CHECK.due("24: a woman of the party " + party, want, () -> mixed.get().holds(0, WOMAN, of));
            CHECK.due("24: a man of the party " + party, want, () -> mixed.get().holds(0, MAN, of));
        }
        for (int party = 0; party < 6; party++) {
            Throughcoach x = mixed.get();
            x.book(0, MAN, 99, party);
            where(x, "10: to those of the party " + party, "0 " + party + " 0", 12);
        }
        refused("10: a free bed, but not for her", mixed, x -> x.book(0, WOMAN, 30, 6));
        refused("10: a free bed, but not for him", mixed, x -> x.book(0, MAN, 30, 9));
        Throughcoach out = mixed.get();
        out.takeOut(0);
        CHECK.due("24: taken out, all its beds are free", true, () -> out.holds(0, WOMAN, 9));
    }

    // "IllegalStateException if the COACH was taken out"
    private static void bookIfTakenOut() {
        refused("10: taken out", () -> {
            Throughcoach x = withParts(SEATS, SEATS);
            x.takeOut(0);
            return x;
        }, x -> x.book(0, WOMAN, 30, 0));
    }

    // "Returns 10 times the room, and the bed, together."
    private static void leaveEachBed() {
        Throughcoach x = coaches(SEATS);
        book(x, 18, 0);
        for (int i = 0; i < 18; i++) {
            int number = i;
            CHECK.due("11: leave", 10 * (i / 3) + 2 - i % 3, () -> x.leave(number));
            CHECK.due("23: nobody", NONE, () -> x.sleeper(0, number / 3, 2 - number % 3));
            where(x, "22: nowhere", "-1 -1 -1", number);
            CHECK.due("22: nothing is paid", 0, () -> x.personOf(number, 3));
        }
        CHECK.due("10: the numbers go on", 18, () -> x.book(0, MAN, 60, 9));
        CHECK.due("11: the lowest bed", 0, () -> x.leave(18));
    }

    // "IllegalStateException if the PERSON sleeps nowhere"
    private static void leaveNowhere() {
        refused("11: who left", () -> {
            Throughcoach x = coaches(SEATS);
            book(x, 2, 0);
            x.leave(0);
            return x;
        }, x -> x.leave(0));
        refused("11: who found none", () -> {
            Throughcoach x = withParts(SEATS);
            book(x, 2, 0);
            x.takeOut(0);
            return x;
        }, x -> x.leave(1));
    }

    // "if both are the same": also if the PERSON sleeps nowhere; "if one of them sleeps nowhere"
    private static void swapNowhere() {
        Supplier<Throughcoach> oneLeft = () -> {
            Throughcoach x = coaches(SEATS);
            book(x, 3, 0);
            x.leave(1);
            return x;
        };
        refused("12: the first one", oneLeft, x -> x.swap(1, 0));
        refused("12: the other one", oneLeft, x -> x.swap(0, 1));
        refused("12: both", () -> {
            Throughcoach x = oneLeft.get();
            x.leave(2);
            return x;
        }, x -> x.swap(1, 2));
        refused("12: who found none", () -> {
            Throughcoach x = withParts(SEATS, SEATS);
            book(x, 1, 0);
            x.takeOut(0);
            x.takeOut(1);
            x.coach(0, 0, 0, 20, 20, 63, true);
            x.book(2, WOMAN, 30, 0);
            return x;
        }, x -> x.swap(0, 1));
        Throughcoach x = oneLeft.get();
        CHECK.argument("12: the same one", () -> {
            x.swap(1, 1);
            return null;
        });
    }

    /** Those of the one room in the COACH 0, those of the other room in the COACH 1, by rising numbers. */
    private static Throughcoach twoRooms(String one, String other) {
        Throughcoach x = coaches(SEATS, SEATS);
        String[] rooms = {one, other};
        for (int coach = 0; coach < 2; coach++) {
            int bed = 2;
            for (String told : rooms[coach].split(" ")) {
                int person = x.book(coach, told.charAt(0) == 'w', 30, told.charAt(1) - '0');
                where(x, "10: in the room 0", coach + " 0 " + bed, person);
                bed--;
            }
        }
        return x;
    }

    private static void maySwap(boolean want, String one, String other) {
        int count = one.split(" ").length;
        String what = one + " and " + other;
        for (int i = 0; i < 2; i++) {
            int person = i == 0 ? 0 : count;
            int with = i == 0 ? count : 0;
            if (want) {
                Throughcoach x = twoRooms(one, other);
                swapped(x, what, person, with);
                where(x, "12: the one, " + what, "1 0 2", 0);
                where(x, "12: the other one, " + what, "0 0 2", count);
                CHECK.due("23: the bed of the one", count, () -> x.sleeper(0, 0, 2));
                CHECK.due("23: the bed of the other one", 0, () -> x.sleeper(1, 0, 2));
            } else {
                refused("12: " + what, () -> twoRooms(one, other), x -> x.swap(person, with));
            }
        }
    }

    // "or a room might not hold those who would sleep there then"
    private static void swapOfTwoRooms() {
        maySwap(true, "w0", "m9");
        maySwap(true, "w0 w1", "w2 w3");
        maySwap(true, "m0 m1 m2", "m3 m4 m5");
        maySwap(false, "w0 w1", "m2");
        maySwap(false, "w0", "m1 m2");
        maySwap(false, "w0 w1", "m2 m3");
        maySwap(true, "w0 w1", "m1 w1");
        maySwap(false, "w0 w1 w1", "m2");
        maySwap(true, "w0 w1", "m1");
        maySwap(true, "w0 w1 w1", "m1");
        maySwap(false, "w0 w1 w2", "m1");
        maySwap(false, "w1 m1", "m1 m2");
        maySwap(true, "w1 m1", "m2");
        maySwap(false, "w1 m1", "w2");
        maySwap(false, "w1 m1 w1", "w2");
        maySwap(false, "w1 m1 w1", "m2");
        maySwap(true, "w1 m1 m1", "m2");
        maySwap(false, "w1 m1", "m2 m3");
        maySwap(true, "w1 m1", "m2 m1");
    }

    // the same for two in one room: who sleeps there stays the same
    private static void swapInARoom() {
        Throughcoach x = room("w1", "m1", "w1");
        swapped(x, "in a room of one party", 0, 1);
        where(x, "12: lower", "0 0 1", 0);
        where(x, "12: higher", "0 0 2", 1);
        swapped(x, "back", 1, 0);
        where(x, "12: back", "0 0 2", 0);
        where(x, "12: who is not told stays", "0 0 0", 2);
        Throughcoach y = room("w1", "w2", "w3");
        swapped(y, "in a room of women", 0, 2);
        where(y, "12: the lowest bed, below 60", "0 0 0", 0);
    }

    // "If a COACH is taken out, those who sleep in it, by rising numbers, each in turn, are placed"
    private static void movedByRisingNumbers() {
        Throughcoach x = withParts(SEATS, SEATS);
        x.book(0, WOMAN, 30, 1);
        x.book(0, WOMAN, 30, 2);
        x.book(0, WOMAN, 70, 3);
        x.swap(0, 2);
        CHECK.due("9: all find one", 0, () -> x.takeOut(0));
        where(x, "9: the first number, not the lowest bed", "1 0 2", 0);
        where(x, "9: the next one", "1 0 1", 1);
        where(x, "9: the last one", "1 0 0", 2);
        CHECK.due("25: nothing is paid", 0, x::paid);
        for (int bed = 0; bed < 18; bed++) {
            int at = bed;
            CHECK.due("23: nobody where they were", NONE, () -> x.sleeper(0, at / 3, at % 3));
        }
    }

    // each in turn: the first ones may take the place of the later ones
    private static void movedUntilFull() {
        for (int free = 0; free < 4; free++) {
            Throughcoach x = withParts(SEATS, SEATS);
            book(x, 18 - free, 1);
            book(x, 3, 0);
            int lost = 3 - free;
            int first = 18 - free;
            CHECK.due("9: with " + free + " free beds", lost, () -> x.takeOut(0));
            for (int i = 0; i < 3; i++) {
                int person = first + i;
                boolean isPlaced = i < free;
                where(x, "9: the one behind " + i, isPlaced ? "1 5 " + (free - 1 - i) : "-1 -1 -1", person);
                CHECK.due("22: the one behind " + i, isPlaced ? 0 : 50, () -> x.personOf(person, 3));
            }
            CHECK.due("25: together", 50 * lost, x::paid);
        }
    }

    // "is of the same kind or one that is told behind that (SEATS, BEDS, ROOMS)"
    private static void kinds() {
        for (int old = SEATS; old <= ROOMS; old++) {
            for (int kind = SEATS; kind <= ROOMS; kind++) {
                Throughcoach x = withParts(old, kind);
                x.book(0, WOMAN, 30, 0);
                boolean isEnough = kind >= old;
                CHECK.due("9: from " + old + " to " + kind, isEnough ? 0 : 1, () -> x.takeOut(0));
                where(x, "9: from " + old + " to " + kind, isEnough ? "1 0 2" : "-1 -1 -1", 0);
            }
        }
    }

    // "in the lowest COACH": by number, not by kind, and it may be below the one that is taken out
    private static void lowestCoach() {
        Throughcoach x = withParts(ROOMS, SEATS, ROOMS, SEATS);
        x.book(3, WOMAN, 30, 0);
        x.takeOut(3);
        where(x, "9: the lowest one", "0 0 2", 0);
        Throughcoach y = withParts(SEATS, BEDS, ROOMS, BEDS);
        y.book(1, WOMAN, 30, 0);
        y.takeOut(1);
        where(y, "9: the lowest one of that kind or better", "2 0 2", 0);
        Throughcoach z = withParts(SEATS, SEATS, SEATS, SEATS, SEATS, SEATS, SEATS, SEATS, SEATS, SEATS);
        z.book(0, WOMAN, 30, 0);
        for (int i = 0; i < 9; i++) {
            int coach = i;
            CHECK.due("9: from the COACH " + i, 0, () -> z.takeOut(coach));
            where(z, "9: to the next one", (i + 1) + " 0 2", 0);
        }
        CHECK.due("9: the last of ten", 1, () -> z.takeOut(9));
        where(z, "9: nowhere", "-1 -1 -1", 0);
        CHECK.due("22: it is paid once", 50, () -> z.personOf(0, 3));
    }

    // "that was not taken out"
    private static void notToOneThatWasTakenOut() {
        Throughcoach x = withParts(SEATS, SEATS, SEATS);
        x.book(0, WOMAN, 30, 0);
        x.takeOut(1);
        x.takeOut(0);
        where(x, "9: the next one that was not", "2 0 2", 0);
    }

    // "whose first PART is with the same TRAIN from the same STATION (both have PARTS)"
    private static void firstParts() {
        for (int i = 0; i < 8; i++) {
            Throughcoach x = coaches(SEATS, SEATS, SEATS);
            x.coach(1, 0, SEATS, 20, 20, 63, true);
            x.part(0, 0, 1);
            x.part(0, 1, 2);
            x.book(0, WOMAN, 30, 0);
            boolean finds = i < 3;
            if (i == 0) {
                x.part(1, 0, 1);
            } else if (i == 1) {
                x.part(1, 0, 2);
            } else if (i == 2) {
                x.part(1, 0, 1);
                x.part(1, 0, 2);
            } else if (i == 3) {
                x.part(1, 1, 1);
            } else if (i == 4) {
                x.part(3, 0, 2);
            } else if (i == 5) {
                x.part(3, 1, 2);
            } else if (i == 6) {
                x.part(1, 1, 1);
                x.part(1, 0, 2);
            }
            CHECK.due("9: case " + i, finds ? 0 : 1, () -> x.takeOut(0));
            where(x, "9: case " + i, finds ? "1 0 2" : "-1 -1 -1", 0);
            CHECK.due("25: case " + i, finds ? 0 : 100, x::paid);
        }
    }

    // "(both have PARTS)": the one that is taken out has none, and the other one may have none, too
    private static void withoutParts() {
        for (int i = 0; i < 2; i++) {
            Throughcoach x = coaches(SEATS, SEATS);
            if (i == 0) {
                x.part(1, 0, 1);
            }
            book(x, 2, 0);
            CHECK.due("9: without PARTS", 2, () -> x.takeOut(0));
            where(x, "9: without PARTS", "-1 -1 -1", 1);
            CHECK.due("22: paid for no PARTS", 0, () -> x.personOf(1, 3));
            CHECK.due("25: paid for no PARTS", 0, x::paid);
        }
    }

    // "and has a room for them": a free bed is not enough; the next COACH may have one
    private static void roomForThem() {
        for (int i = 0; i < 2; i++) {
            boolean isWoman = i == 0;
            Throughcoach x = withParts(SEATS, SEATS, SEATS);
            book(x, 16, 1);
            x.book(0, isWoman, 30, 9);
            CHECK.due("9: a woman: " + isWoman, 0, () -> x.takeOut(0));
            where(x, "9: a woman: " + isWoman, isWoman ? "1 5 1" : "2 0 2", 16);
        }
    }

    // "is paid 50 for each PART of the COACH"
    private static void paidForEachPart() {
        for (int parts = 0; parts < 4; parts++) {
            Throughcoach x = Scene.stations(4);
            Scene.train(x, 100, 0, 1, 2, 3);
            Scene.coach(x, 0);
            for (int i = 0; i < parts; i++) {
                x.part(0, 0, i + 1);
            }
            book(x, 18, 0);
            int each = 50 * parts;
            CHECK.due("25: ahead of it", 0, x::paid);
            CHECK.due("9: how many", 18, () -> x.takeOut(0));
            for (int i = 0; i < 18; i++) {
                int person = i;
                CHECK.due("22: for " + parts, each, () -> x.personOf(person, 3));
            }
            CHECK.due("25: for " + parts, 18 * each, x::paid);
        }
    }

    // "what was paid to PERSONS, together": of several COACHES; who left ahead is not paid
    private static void paidTogether() {
        Throughcoach x = coaches(ROOMS, BEDS, SEATS);
        x.part(0, 0, 1);
        x.part(1, 0, 1);
        x.part(1, 0, 2);
        book(x, 3, 0);
        book(x, 2, 1);
        book(x, 1, 2);
        x.leave(0);
        CHECK.due("9: two of three", 2, () -> x.takeOut(0));
        CHECK.due("25: for one PART each", 100, x::paid);
        CHECK.due("9: two more", 2, () -> x.takeOut(1));
        CHECK.due("25: for two PARTS each", 300, x::paid);
        CHECK.due("9: one more", 1, () -> x.takeOut(2));
        CHECK.due("25: for no PARTS", 300, x::paid);
        int[] want = {0, 50, 50, 100, 100, 0};
        for (int i = 0; i < want.length; i++) {
            int person = i;
            CHECK.due("22: the PERSON " + i, want[i], () -> x.personOf(person, 3));
        }
    }

    // "with an age of 60 or more": as they are moved, too
    private static void movedByAge() {
        for (int age = 59; age < 61; age++) {
            Throughcoach x = withParts(SEATS, SEATS);
            x.book(0, MAN, age, 4);
            x.takeOut(0);
            where(x, "9: with an age of " + age, age < 60 ? "1 0 2" : "1 0 0", 0);
        }
    }

    // PARTS that are told behind a booking count as the COACH is taken out
    private static void partsToldLater() {
        Throughcoach x = coaches(SEATS, SEATS);
        x.book(0, WOMAN, 30, 0);
        x.part(0, 1, 1);
        x.part(1, 1, 2);
        CHECK.due("9: told later", 0, () -> x.takeOut(0));
        where(x, "9: told later", "1 0 2", 0);
    }

    public static void main(String[] args) {
        fortyPersons();
        ages();
        freeBeds();
        eighteenBeds();
        whoMaySleepInARoom();
        whoLeftTheRoom();
        lowestRoom();
        thatRoomAlone();
        holds();
        bookIfTakenOut();
        leaveEachBed();
        leaveNowhere();
        swapNowhere();
        swapOfTwoRooms();
        swapInARoom();
        movedByRisingNumbers();
        movedUntilFull();
        kinds();
        lowestCoach();
        notToOneThatWasTakenOut();
        firstParts();
        withoutParts();
        roomForThem();
        paidForEachPart();
        paidTogether();
        movedByAge();
        partsToldLater();
        CHECK.end();
    }
}
