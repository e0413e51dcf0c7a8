/** Promises 13 to 17: the day. */
final class DayTest {
    private static final Due due = new Due("DayTest");

    public static void main(String[] args) {
        clock();
        latestOpened();
        endOfDay();
        room();
        out();
        meet();
        first();
        due.close();
    }

    private static void clock() {
        // Done at 9: a toque, opened at 14 in room 2, so 9, 10, 11 o'clock there.
        HatHours x = Due.told("toque 3 0 1 14 2;");
        due.is("ahead", x.clock(2, 13, 0), 13);
        due.is("ahead, by", x.clock(2, 13, 1), HatHours.NONE);
        for (int i = 0; i < 3; i++) {
            due.is("out " + i, x.clock(2, 14 + i, 0), 9 + i);
            due.is("out by " + i, x.clock(2, 14 + i, 1), 0);
        }
        due.is("behind", x.clock(2, 17, 0), 17);
        due.is("another room", x.clock(1, 14, 0), 14);
        due.is("room 5", x.clock(5, 0, 0), HatHours.BAD);
        due.is("room -1", x.clock(-1, 0, 0), HatHours.BAD);
        due.is("hour 24", x.clock(0, 24, 0), HatHours.BAD);
        due.is("hour -1", x.clock(0, -1, 0), HatHours.BAD);
        due.is("what 2", x.clock(0, 0, 2), HatHours.BAD);
        due.is("what -1", x.clock(0, 0, -1), HatHours.BAD);
    }

    private static void latestOpened() {
        // Two of the same hour: the last by number tells, whichever place it has.
        HatHours x = Due.told("veil 1 0 1 10 0;bonnet 1 0 1 10 0;bridal 1 0 1 8 0;order 1 0 2;");
        due.is("8", x.clock(0, 8, 1), 2);
        due.is("10", x.clock(0, 10, 1), 1);
        due.is("10 o'clock", x.clock(0, 10, 0), 7);
        due.is("13", x.clock(0, 13, 1), 1);
        due.is("14", x.clock(0, 14, 1), 2);
        due.is("14 o'clock", x.clock(0, 14, 0), 15);
        due.is("16", x.clock(0, 16, 1), HatHours.NONE);
        // The later opened is done with first: the earlier one tells again.
        HatHours y = Due.told("bonnet 1 0 1 10 0;veil 1 0 1 10 0;");
        due.is("veil tells", y.clock(0, 11, 1), 1);
        due.is("bonnet again", y.clock(0, 12, 1), 0);
        due.is("bonnet's hour", y.clock(0, 12, 0), 9);
    }

    private static void endOfDay() {
        HatHours x = Due.told("bridal 12 0 1 22 4;start 10;");
        due.is("22", x.clock(4, 22, 0), 22);
        x.start(12);
        due.is("past midnight by the box", x.clock(4, 22, 0), 0);
        due.is("and on", x.clock(4, 23, 0), 1);
        due.is("no hours on the next day", x.clock(4, 0, 1), HatHours.NONE);
        due.is("bits", x.out(0), 3 << 22);
        due.is("yawns in 22 and 23 alone", x.rule(4), 2);
        due.is("yawns of the room", x.room(4, 0), 2);
        x.start(11);
        due.is("23 o'clock", x.clock(4, 22, 0), 23);
        due.is("modulo 24", x.clock(4, 23, 0), 0);
    }

    private static void room() {
        // A bonnet done at 3, out from 5 to 8 in room 1.
        HatHours x = Due.told("bonnet 3 0 1 5 1;veil 2 0 1 20 2;start 0;");
        due.is("yawns: 6, 7", x.room(1, 0), 2);
        due.is("strange", x.room(1, 1), 15 << 5);
        due.is("yawns of 2: 20", x.room(2, 0), 1);
        due.is("strange of 2", x.room(2, 1), 3 << 20);
        due.is("nothing in 0", x.room(0, 0), 0);
        due.is("nothing strange in 0", x.room(0, 1), 0);
        x.alter(0, 4, 3);
        due.is("its own hour", x.room(1, 1), 0);
        x.alter(0, 4, 0);
        due.is("from the hour 0 on", x.room(1, 1), 15);
        x.alter(1, 4, 23);
        due.is("no hour 24", x.room(2, 1), 1 << 23);
        x.alter(1, 5, 4);
        due.is("room 4", x.room(4, 0), 1);
        due.is("room 5", x.room(5, 0), HatHours.BAD);
        due.is("room -1", x.room(-1, 0), HatHours.BAD);
        due.is("what 2", x.room(0, 2), HatHours.BAD);
        due.is("what -1", x.room(0, -1), HatHours.BAD);
    }

    private static void out() {
        HatHours x = Due.told("bonnet 1 0 1 8 0;veil 1 0 1 9 0;veil 1 0 1 9 0;");
        due.is("out(0)", x.out(0), 1 << 8 | 1 << 11);
        due.is("out(1), wholly behind another", x.out(1), 0);
        due.is("out(2)", x.out(2), 3 << 9);
        due.is("out(3)", x.out(3), HatHours.BAD);
        x.alter(0, 4, 0);
        due.is("from the hour 0 on", x.out(0), 15);
        due.is("out(-1)", x.out(-1), HatHours.BAD);
    }

    private static void meet() {
        // Done at 7 and at 9; opened at 8 and at 10: from 10 on both rooms have 9 o'clock.
        HatHours x = Due.told("bonnet 1 0 1 8 0;bonnet 2 0 1 10 3;");
        due.is("meet(0, 3)", x.meet(0, 3), 10);
        due.is("meet(3, 0)", x.meet(3, 0), 10);
        due.is("by a box and by none", x.meet(0, 1), HatHours.NONE);
        due.is("by none both", x.meet(1, 2), HatHours.NONE);
        due.is("alike", x.meet(0, 0), HatHours.BAD);
        due.is("room 5", x.meet(0, 5), HatHours.BAD);
        due.is("room -1", x.meet(-1, 0), HatHours.BAD);
        // Room 0 has the hour itself by a box; room 1 has it by none.
        HatHours y = Due.told("bonnet 2 0 1 8 0;");
        due.is("the hour itself, by none", y.meet(0, 1), HatHours.NONE);
        HatHours early = Due.told("veil 12 0 1 0 1;veil 12 0 1 0 2;veil 12 0 1 0 3;start 0;");
        due.is("in the hour 0", early.meet(1, 3), 0);
        HatHours late = Due.told("veil 1 0 1 23 1;veil 1 0 1 22 2;");
        due.is("in the hour 23", late.meet(1, 2), HatHours.NONE);
        late.change(0, 1);
        due.is("8 and 8 o'clock", late.meet(1, 2), 23);
        // They would have one hour in the hour 24, but THE DAY has none.
        HatHours over = Due.told("bonnet 1 0 1 22 1;bonnet 12 0 1 22 2;veil 12 0 1 22 2;order 0 2;");
        due.is("no hour 24", over.meet(1, 2), HatHours.NONE);
    }

    private static void first() {
        // Done at 20, opened at 8: 20 to 23 o'clock in the hours 8 to 11.
        HatHours x = Due.told("bonnet 12 0 1 8 0;start 8;");
        due.is("by the box", x.first(0, 21), 9);
        due.is("by none", x.first(0, 7), 7);
        due.is("in none", x.first(0, 8), HatHours.NONE);
        due.is("elsewhere", x.first(1, 8), 8);
        due.is("hour 0", x.first(1, 0), 0);
        due.is("hour 23", x.first(1, 23), 23);
        // Done at 20, opened at 22: it would be 22 o'clock in an hour 24.
        HatHours y = Due.told("bonnet 12 0 1 22 0;start 8;");
        due.is("no hour 24", y.first(0, 22), HatHours.NONE);
        due.is("v 24", x.first(0, 24), HatHours.BAD);
        due.is("v -1", x.first(0, -1), HatHours.BAD);
        due.is("room 5", x.first(5, 0), HatHours.BAD);
        due.is("room -1", x.first(-1, 0), HatHours.BAD);
    }
}
