/** Runs every test of the project; ends with exit code 1 if one answer is not as due. Its argument is the project's folder. */
public final class AllTests {
    private AllTests() {
    }

    public static void main(String[] args) {
        EdgeTest.run();
        int withoutEdges = Due.unlooked();
        LawTest.run();
        LivesTest.run();
        YearsTest.run();
        HiddenTest.run();
        AdjusterTest.run();
        RuinTest.run();
        LotsTest.run();
        ToldTest.run();
        HostTest.run();
        FaceTest.run();
        RoomTest.run();
        SourceTest.run(args.length > 0 ? args[0] : ".");
        RandomTest.run();
        if (withoutEdges != 0) {
            System.out.println("no edge is looked at of promise " + withoutEdges);
        }
        System.out.println(Due.passed() + " passed, " + Due.failed() + " failed");
        if (Due.failed() != 0 || withoutEdges != 0) {
            System.exit(1);
        }
    }
}
