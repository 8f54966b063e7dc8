/** Promises 6 to 8: references made and cut, things owned anew and handed on. */
public final class ChangeTest {
    private static void references() {
        OwnedThings x = Check.with("o;pw;p0;pw");
        Check.due("refer(6, 0)", x.refer(6, 0), 1);
        Check.due("refer(0, 1)", x.refer(0, 1), 2);
        Check.due("refer(1, 0)", x.refer(1, 0), 3);
        Check.due("refer(0, 1) again", x.refer(0, 1), 2);
        Check.due("it is cut", x.refers(0, 1), 0);
        Check.due("the other way is not", x.refers(1, 0), 1);
        Check.due("both the same", x.refer(0, 0), Check.UNKNOWN);
        Check.due("to the world", x.refer(0, 6), Check.UNKNOWN);
        Check.due("world to world", x.refer(6, 6), Check.UNKNOWN);
        Check.due("no such thing", x.refer(3, 0), Check.UNKNOWN);
        Check.due("no such thing", x.refer(0, 3), Check.UNKNOWN);
        Check.due("no such thing", x.refer(-1, 0), Check.UNKNOWN);
        Check.due("nothing changed", x.many(1), 2);
    }

    private static void fullOfReferences() {
        OwnedThings x = Check.with("o;pw;pw;pw;pw,01,02,03,10,12,13,20,21,23,30,31,32");
        Check.due("there are 12", x.many(1), 12);
        Check.due("a 13th", x.refer(6, 0), Check.FULL);
        Check.due("unknown comes first", x.refer(6, 4), Check.UNKNOWN);
        Check.due("one is cut all the same", x.refer(2, 1), 11);
        Check.due("now there is room", x.refer(6, 0), 12);
        Check.due("it is the last", x.place(6, 0), 11);
        Check.due("the last one is cut", x.refer(6, 0), 11);
        Check.due("the first one is cut", x.refer(0, 1), 10);
        Check.due("all move up", x.place(0, 2), 0);
    }

    private static void owners() {
        OwnedThings x = Check.with("o;pw;p0;p1;gw");
        Check.due("own(3, 2)", x.own(3, 2), 6);
        Check.due("level of 3", x.ofThing(3, 2), 4);
        Check.due("under it", x.own(0, 2), Check.STATE);
        Check.due("far under it", x.own(0, 3), Check.STATE);
        Check.due("right under it", x.own(0, 1), Check.STATE);
        Check.due("both the same", x.own(0, 0), Check.UNKNOWN);
        Check.due("no such thing", x.own(4, 0), Check.UNKNOWN);
        Check.due("no such owner", x.own(0, 4), Check.UNKNOWN);
        Check.due("no such owner", x.own(0, 7), Check.UNKNOWN);
        Check.due("the world is not owned", x.own(6, 0), Check.UNKNOWN);
        Check.due("the world is not owned by it", x.own(6, 6), Check.UNKNOWN);
        Check.due("the same owner again", x.own(1, 0), 0);
        Check.due("own(1, 6)", x.own(1, 6), 0);
        Check.due("own(0, 3) then", x.own(0, 3), 6);
        Check.due("level of 0 then", x.ofThing(0, 2), 4);
    }

    private static void handed() {
        OwnedThings x = Check.with("o;pw;p0;p0;p2,w0,01,02,23,13");
        Check.due("two references to it", x.hand(3, 0), Check.STATE);
        Check.due("both the same", x.hand(1, 1), Check.UNKNOWN);
        Check.due("not to the world", x.hand(1, 6), Check.UNKNOWN);
        Check.due("no such thing", x.hand(4, 0), Check.UNKNOWN);
        Check.due("the world is not handed", x.hand(6, 0), Check.UNKNOWN);
        Check.due("refers to it already", x.hand(1, 0), Check.STATE);
        Check.due("it is under it", x.hand(2, 3), Check.STATE);
        Check.due("hand(1, 2)", x.hand(1, 2), 0);
        Check.due("keeps its place", x.place(2, 1), 1);
        Check.due("no longer there", x.place(0, 1), Check.NONE);
        Check.due("owned by it", x.ofThing(1, 1), 2);
        Check.due("as many", x.many(1), 5);
        Check.due("from the world", x.hand(0, 1), Check.STATE);
        x.own(1, 6);
        x.own(2, 6);
        x.own(3, 6);
        Check.due("from the world", x.hand(0, 1), 6);
        Check.due("at the first place", x.place(1, 0), 0);
        Check.due("owned by 1", x.ofThing(0, 1), 1);
        x.refer(2, 3);
        x.refer(1, 3);
        Check.due("no reference to it", x.hand(3, 0), Check.STATE);
    }

    public static void main(String[] args) {
        references();
        fullOfReferences();
        owners();
        handed();
        Check.finish();
    }
}
