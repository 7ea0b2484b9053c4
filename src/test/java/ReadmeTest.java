/** The examples of README.md, with what it says of them. */
public final class ReadmeTest {
    public static void main(String[] args) {
        StubbornBridges x = new StubbornBridges();
        x.bridge(0, 1, 100, 2, 50);
        x.route(0, 1, 0);
        int parcel = x.send(0, 1, 250, 7, 41);
        int ticks = x.doneIn(parcel);
        Checks.due("the forecast changes nothing", x.ofParcel(parcel, 5), StubbornBridges.ON_ITS_WAY);
        // Slices of 88, 88 and 74 bytes, each of which needs 2 + 1 ticks and is put in the tick 3.
        Checks.due("the forecast", ticks, 4);
        x.ticks(ticks);
        Checks.due("whole", x.ofParcel(parcel, 5), StubbornBridges.WHOLE);
        Checks.due("t5;r", x.put('t' << 24 | '5' << 16 | ';' << 8 | 'r'), 4);
        Checks.due("the text ends too early", x.fault(), 4);
        Checks.due("t5;r0", x.put('0'), 5);
        Checks.due("no fault", x.fault(), StubbornBridges.NONE);
        Checks.due("a parcel that is whole is not sent again", x.carryOut(), 1);
        Checks.due("five ticks", x.count(0), ticks + 5);
        Checks.finish();
    }
}
