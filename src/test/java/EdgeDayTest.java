/** The boundary cases of promises 13 to 17, by the promise's number. */
final class EdgeDayTest {
    private static final int BAD = HatHours.BAD, NONE = HatHours.NONE;
    private static final int[] LASTS = {4, 2, 3, 8};
    private static final Due due = new Due("EdgeDayTest");

    public static void main(String[] args) {
        promise13EachKindAtEachHour();
        promise13OpenedLast();
        promise13LastByOrder();
        promise13Numbers();
        promise14Bits();
        promise15Hidden();
        promise16FirstHour();
        promise16ByBoxesBoth();
        promise16Numbers();
        promise17FirstHour();
        promise17Numbers();
        due.close();
    }

    /** One BOX alone, of each KIND, OPENED at each HOUR: where it is OUT, as far as there are HOURS in THE DAY. */
    private static void promise13EachKindAtEachHour() {
        for (int kind = 0; kind < 4; kind++) {
            for (int opened = 0; opened < 24; opened++) {
                HatHours x = Due.told("veil 10 0 1 0 3;start 12;");
                x.alter(0, 0, kind);
                x.alter(0, 4, opened);
                day(x, kind, opened);
            }
        }
    }

    private static void day(HatHours x, int kind, int opened) {
        int out = 0;
        int strange = 0;
        for (int h = 0; h < 24; h++) {
            boolean is = h >= opened && h < opened + LASTS[kind];
            int oclock = is ? (22 + h - opened) % 24 : h;
            String at = " kind " + kind + " opened " + opened + " hour " + h;
            due.is("13 o'clock," + at, x.clock(3, h, 0), oclock);
            due.is("13 by," + at, x.clock(3, h, 1), is ? 0 : NONE);
            due.is("13 another room," + at, x.clock(2, h, 0), h);
            out |= is ? 1 << h : 0;
            strange |= oclock != h ? 1 << h : 0;
        }
        due.is("15 kind " + kind + " opened " + opened, x.out(0), out);
        due.is("14 kind " + kind + " opened " + opened, x.room(3, 1), strange);
        due.is("6 kind " + kind + " opened " + opened, x.rule(5), Integer.bitCount(strange));
    }

    private static void promise13OpenedLast() {
        // A bridal at 8; a veil at 9, of a lesser number, tells for its two hours.
        HatHours x = Due.told("veil 1 0 1 9 0;bridal 1 0 1 8 0;");
        int[] by = {1, 0, 0, 1, 1, 1, 1, 1, NONE};
        for (int i = 0; i < by.length; i++) {
            due.is("13 by, hour " + (8 + i), x.clock(0, 8 + i, 1), by[i]);
        }
        due.is("13 gone since it was opened, though hidden", x.clock(0, 11, 0), 11);
        // Opened at 0, the least there is, and at 1.
        HatHours y = Due.told("veil 1 0 1 0 4;veil 2 0 1 1 4;");
        due.is("13 the hour 0", y.clock(4, 0, 1), 0);
        due.is("13 the hour 1", y.clock(4, 1, 1), 1);
        due.is("13 the hour 2", y.clock(4, 2, 1), 1);
        due.is("13 the hour 3", y.clock(4, 3, 1), NONE);
    }

    /** All five at one HOUR in one ROOM: the last by their numbers, whatever THE ORDER of WORK is. */
    private static void promise13LastByOrder() {
        HatHours x = Due.told("bridal 1 0 1 23 1;bridal 2 0 1 23 1;bridal 3 0 1 23 1;bridal 4 0 1 23 1;bridal 5 0 1 23 1;"
                + "order 4 3 2 1 0;");
        for (int b = 4; b >= 0; b--) {
            due.is("13 the last", x.clock(1, 23, 1), b);
            due.is("13 its own hour", x.clock(1, 23, 0), x.box(b, 7));
            due.is("15 of the last", x.out(b), 1 << 23);
            due.is("15 of the one ahead", x.out(b - 1), b == 0 ? BAD : 0);
            x.alter(b, 5, 0);
        }
        due.is("13 none there", x.clock(1, 23, 1), NONE);
        // Of a lesser number but lasting longer: it tells when the others are over.
        HatHours y = Due.told("bonnet 1 0 1 5 2;veil 1 0 1 5 2;toque 1 0 1 5 2;");
        int[] by = {2, 2, 2, 0, NONE};
        for (int i = 0; i < by.length; i++) {
            due.is("13 of three, hour " + (5 + i), y.clock(2, 5 + i, 1), by[i]);
        }
    }

    private static void promise13Numbers() {
        HatHours x = Due.told("veil 1 0 1 0 0;veil 1 0 1 23 4;");
        due.is("13 the least", x.clock(0, 0, 0), 7);
        due.is("13 the most", x.clock(4, 23, 1), 1);
        for (int v : new int[] {-1, Integer.MIN_VALUE, Integer.MAX_VALUE}) {
            due.is("13 room " + v, x.clock(v, 0, 0), BAD);
            due.is("13 hour " + v, x.clock(0, v, 0), BAD);
            due.is("13 what " + v, x.clock(0, 0, v), BAD);
        }
        due.is("13 room 5", x.clock(5, 0, 0), BAD);
        due.is("13 hour 24", x.clock(0, 24, 0), BAD);
        due.is("13 what 2", x.clock(0, 0, 2), BAD);
    }

    private static void promise14Bits() {
        HatHours x = Due.told("bridal 1 0 1 0 0;bridal 1 0 1 8 0;bridal 1 0 1 16 0;start 0;");
        // Done at 1, 2, 3: opened at 0, 8, 16, no hour is its own.
        due.is("14 all hours", x.room(0, 1), 0xFFFFFF);
        due.is("6 all hours", x.rule(5), 24);
        // 2 to 5 o'clock in 8 to 11, 3 to 5 in 16 to 18; in the hours 6 and 7 it is 7 and 8.
        due.is("14 yawns", x.room(0, 0), 7);
        for (int r = 1; r < 5; r++) {
            due.is("14 none strange in " + r, x.room(r, 1), 0);
            due.is("14 no yawns in " + r, x.room(r, 0), 0);
        }
        x.start(23);
        due.is("14 the first is its own hour", x.room(0, 1), 0xFFFF00);
        due.is("14 room 4", x.room(4, 1), 0);
        due.is("14 room 5", x.room(5, 1), BAD);
        due.is("14 what 2", x.room(4, 2), BAD);
    }

    private static void promise15Hidden() {
        HatHours x = Due.told("bonnet 1 0 1 20 0;bonnet 1 0 1 20 1;bridal 1 0 1 20 0;veil 1 0 1 23 0;");
        due.is("15 hidden wholly", x.out(0), 0);
        due.is("15 alone in its room", x.out(1), 15 << 20);
        due.is("15 to the end of the day but where another is", x.out(2), 7 << 20);
        due.is("15 the hour 23 alone", x.out(3), 1 << 23);
        due.is("15 no such", x.out(4), BAD);
        due.is("15 below", x.out(-1), BAD);
        // Its own hour is the hour itself: it is some o'clock by it all the same.
        HatHours y = Due.told("veil 2 0 1 8 0;");
        due.is("15 as it would be by none", y.out(0), 3 << 8);
        due.is("14 but not strange", y.room(0, 1), 0);
    }

    private static void promise16FirstHour() {
        // Both done at 0: WORK 12 each from 0 on would be 12 and 0; so the second room has two boxes' work.
        HatHours x = Due.told("bridal 12 0 1 0 0;bridal 12 0 1 0 1;bridal 12 0 1 0 2;start 12;");
        due.is("16 from the hour 0 on", x.meet(0, 2), 0);
        due.is("16 the other way round", x.meet(2, 0), 0);
        due.is("16 twelve apart", x.meet(0, 1), NONE);
        x.alter(0, 4, 3);
        x.alter(2, 4, 3);
        due.is("16 from the hour 3 on", x.meet(0, 2), 3);
        x.alter(0, 4, 23);
        x.alter(2, 4, 23);
        due.is("16 in the hour 23", x.meet(0, 2), 23);
        x.alter(2, 4, 22);
        due.is("16 an hour apart", x.meet(0, 2), NONE);
        // Over midnight by the boxes: 23 then 0 o'clock in one, 0 o'clock in the other.
        HatHours y = Due.told("veil 1 0 1 10 3;veil 1 0 1 11 4;start 22;");
        due.is("16 modulo 24", y.meet(3, 4), 11);
        // In an hour 24 both would have one hour, by a box that lasts as long and by one that hides no more.
        HatHours over = Due.told("bonnet 1 0 1 22 1;bonnet 12 0 1 22 2;veil 12 0 1 22 2;order 0 2;");
        due.is("16 THE DAY has no hour 24", over.meet(1, 2), NONE);
    }

    private static void promise16ByBoxesBoth() {
        HatHours x = Due.told("bridal 2 0 1 8 0;");
        for (int q = 1; q < 5; q++) {
            due.is("16 by a box and by none", x.meet(0, q), NONE);
            due.is("16 by none and by a box", x.meet(q, 0), NONE);
        }
        due.is("16 by none both", x.meet(3, 4), NONE);
        // The boxes are out one behind the other: never both.
        HatHours y = Due.told("veil 2 0 1 8 0;veil 2 0 1 10 1;");
        due.is("16 one behind the other", y.meet(0, 1), NONE);
        y.alter(1, 4, 9);
        due.is("16 9 and 10 o'clock", y.meet(0, 1), NONE);
        y.alter(1, 1, 1);
        due.is("16 9 o'clock both", y.meet(0, 1), 9);
    }

    private static void promise16Numbers() {
        HatHours x = Due.told("veil 12 0 1 0 0;veil 12 0 1 0 1;veil 12 0 1 0 4;start 12;");
        due.is("16 the greatest room", x.meet(0, 4), 0);
        for (int r = 0; r < 5; r++) {
            due.is("16 alike " + r, x.meet(r, r), BAD);
            due.is("16 room 5", x.meet(r, 5), BAD);
            due.is("16 room -1", x.meet(-1, r), BAD);
        }
        due.is("16 alike, no such", x.meet(5, 5), BAD);
    }

    private static void promise17FirstHour() {
        // Done at 3, out from 1 on: 3 o'clock in the hour 1 by it, and it is over by the hour 3.
        HatHours x = Due.told("veil 3 0 1 1 2;start 0;");
        due.is("17 the first of two", x.first(2, 3), 1);
        due.is("17 the second as well", x.first(2, 4), 2);
        due.is("17 hidden by it", x.first(2, 1), NONE);
        due.is("17 hidden by it too", x.first(2, 2), NONE);
        due.is("17 the hour 0", x.first(2, 0), 0);
        due.is("17 the hour 23", x.first(2, 23), 23);
        due.is("17 another room", x.first(1, 1), 1);
        x.alter(0, 4, 23);
        due.is("17 ahead of it by none", x.first(2, 3), 3);
        due.is("17 23 is hidden", x.first(2, 23), NONE);
        x.alter(0, 4, 0);
        due.is("17 0 is hidden", x.first(2, 0), NONE);
        due.is("17 in the hour 0", x.first(2, 3), 0);
        // Over midnight by the box: 0 o'clock first in the hour 0, though in the hour 11 too.
        HatHours y = Due.told("veil 1 0 1 10 2;start 22;");
        due.is("17 0 o'clock", y.first(2, 0), 0);
        due.is("17 23 o'clock", y.first(2, 23), 10);
        HatHours over = Due.told("bonnet 12 0 1 22 0;start 8;");
        due.is("17 THE DAY has no hour 24", over.first(0, 22), NONE);
    }

    private static void promise17Numbers() {
        HatHours x = new HatHours();
        for (int r = -1; r <= 5; r++) {
            for (int v = -1; v <= 24; v++) {
                boolean fit = r >= 0 && r < 5 && v >= 0 && v < 24;
                due.is("17 first " + r + " " + v, x.first(r, v), fit ? v : BAD);
            }
        }
    }
}
