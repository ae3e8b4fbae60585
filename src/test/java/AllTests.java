/** Runs every test of the project; ends with exit code 1 if one answer is not as due. Its argument is the project's folder. */
public final class AllTests {
    private AllTests() {
    }

    public static void main(String[] args) {
        String root = args.length > 0 ? args[0] : ".";
        EdgeTest.run();
        allLookedAt("the edges");
        sections();
        allLookedAt("the sections' tests");
        FaceTest.run();
        RoomTest.run();
        SourceTest.run(root);
        ReadmeTest.run(root);
        RandomTest.run();
        System.out.println(Due.passed() + " passed, " + Due.failed() + " failed");
        if (Due.failed() != 0) {
            System.exit(1);
        }
    }

    private static void sections() {
        LawTest.run();
        LivesTest.run();
        YearsTest.run();
        HiddenTest.run();
        AdjusterTest.run();
        RuinTest.run();
        LotsTest.run();
        ToldTest.run();
        HostTest.run();
    }

    private static void allLookedAt(String by) {
        int unlooked = Due.unlooked();
        Due.lookAfresh();
        Due.is(unlooked, "the first promise at which " + by + " don't look", unlooked, 0);
    }
}
